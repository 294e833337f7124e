/-- worlds by their leaves -/
def qDh (x0 : Nat) (x1 x2 x3 x4 x5 x6 x7 x8 x9 x10 x11 x12 x13 x14 x15 x16 x17 x18 x19 x20 x21 : Value) (x22 : Int32) (x23 x24 x25 x26 x27 x28 x29 x30 x31 x32 x33 x34 x35 x36 x37 x38 x39 x40 : Value) (x41 : Nat) (x42 x43 x44 x45 x46 x47 x48 x49 x50 x51 x52 x53 x54 x55 : Value) (x56 : Nat) (x57 : ClassId) (x58 : NI) : va_W := [(x0, .inr (11, [x1, x2, x3, x4, x5, x6, x7, x8, x9, x10, x11, x12, x13, x14, x15, x16, x17, x18, x19, x20, x21, .int x22, x23, x24, x25, x26, x27, x28, x29, x30, x31, x32, x33, x34, x35, x36, x37, x38, x39, x40, .ref x41, x42, x43, x44, x45, x46, x47, x48, x49, x50, x51, x52, x53, x54, x55])), (x56, .inl (x57, 68, .inl x58))]
def qy7 (x0 : Nat) (x1 : Int32) (x2 : Nat) (x3 x4 x5 x6 x7 x8 x9 x10 x11 x12 x13 x14 x15 x16 x17 x18 x19 x20 x21 : Value) (x22 : Int32) (x23 x24 x25 x26 x27 x28 x29 x30 x31 x32 x33 x34 x35 x36 x37 x38 x39 : Value) (x40 x41 : Nat) (x42 x43 x44 x45 x46 x47 x48 x49 x50 x51 x52 x53 x54 x55 : Value) (x56 : Nat) (x57 : ClassId) (x58 : NI) (x59 : Nat) (x60 : ClassId) (x61 : NI) (x62 : Nat) (x63 : ClassId) (x64 : NI) : va_W := [(x0, .inr (11, [.int x1, .ref x2, x3, x4, x5, x6, x7, x8, x9, x10, x11, x12, x13, x14, x15, x16, x17, x18, x19, x20, x21, .int x22, x23, x24, x25, x26, x27, x28, x29, x30, x31, x32, x33, x34, x35, x36, x37, x38, x39, .ref x40, .ref x41, x42, x43, x44, x45, x46, x47, x48, x49, x50, x51, x52, x53, x54, x55])), (x56, .inl (x57, 2, .inl x58)), (x59, .inl (x60, 68, .inl x61)), (x62, .inl (x63, 68, .inl x64))]
def qaLb (x0 : Nat) (x1 : Int32) (x2 : Nat) (x3 x4 x5 x6 x7 x8 x9 x10 x11 x12 x13 x14 x15 x16 x17 x18 x19 x20 x21 : Value) (x22 : Int32) (x23 x24 x25 x26 x27 x28 x29 x30 x31 x32 x33 x34 x35 x36 x37 x38 x39 : Value) (x40 x41 : Nat) (x42 x43 x44 x45 x46 x47 x48 x49 x50 x51 x52 x53 x54 x55 : Value) (x56 : Nat) (x57 : ClassId) (x58 : NI) : va_W := [(x0, .inr (11, [.int x1, .ref x2, x3, x4, x5, x6, x7, x8, x9, x10, x11, x12, x13, x14, x15, x16, x17, x18, x19, x20, x21, .int x22, x23, x24, x25, x26, x27, x28, x29, x30, x31, x32, x33, x34, x35, x36, x37, x38, x39, .ref x40, .ref x41, x42, x43, x44, x45, x46, x47, x48, x49, x50, x51, x52, x53, x54, x55])), (x56, .inl (x57, 68, .inl x58))]
def qa7U (x0 : Nat) (x1 : ClassId) (x2 : NI) (x3 : Nat) (x4 : ClassId) (x5 : NI) : va_W := [(x0, .inl (x1, 2, .inl x2)), (x3, .inl (x4, 68, .inl x5))]
def qa0S (x0 : Nat) (x1 : Int32) (x2 : Nat) (x3 x4 x5 x6 x7 x8 x9 x10 x11 x12 x13 x14 x15 x16 x17 x18 x19 x20 x21 : Value) (x22 : Int32) (x23 x24 x25 x26 x27 x28 x29 x30 x31 x32 x33 x34 x35 x36 x37 x38 x39 : Value) (x40 x41 : Nat) (x42 x43 x44 x45 x46 x47 x48 x49 x50 x51 x52 x53 x54 x55 : Value) (x56 : Nat) (x57 : ClassId) (x58 : NI) : va_W := [(x0, .inr (11, [.int x1, .ref x2, x3, x4, x5, x6, x7, x8, x9, x10, x11, x12, x13, x14, x15, x16, x17, x18, x19, x20, x21, .int x22, x23, x24, x25, x26, x27, x28, x29, x30, x31, x32, x33, x34, x35, x36, x37, x38, x39, .ref x40, .ref x41, x42, x43, x44, x45, x46, x47, x48, x49, x50, x51, x52, x53, x54, x55])), (x56, .inl (x57, 2, .inl x58))]
def qbcQ (x0 : Nat) (x1 : ClassId) (x2 : NI) (x3 : Nat) (x4 : ClassId) (x5 : NI) : va_W := [(x0, .inl (x1, 68, .inl x2)), (x3, .inl (x4, 68, .inl x5))]
def qbcV (x0 : Nat) (x1 : Int32) (x2 : Nat) (x3 x4 x5 x6 x7 x8 x9 x10 x11 x12 x13 x14 x15 x16 x17 x18 x19 x20 x21 : Value) (x22 : Int32) (x23 x24 x25 x26 x27 x28 x29 x30 x31 x32 x33 x34 x35 x36 x37 x38 x39 : Value) (x40 x41 : Nat) (x42 x43 x44 x45 x46 x47 x48 x49 x50 x51 x52 x53 x54 x55 : Value) (x56 : Nat) (x57 : ClassId) (x58 : NI) (x59 : Nat) (x60 : ClassId) (x61 : NI) : va_W := [(x0, .inr (11, [.int x1, .ref x2, x3, x4, x5, x6, x7, x8, x9, x10, x11, x12, x13, x14, x15, x16, x17, x18, x19, x20, x21, .int x22, x23, x24, x25, x26, x27, x28, x29, x30, x31, x32, x33, x34, x35, x36, x37, x38, x39, .ref x40, .ref x41, x42, x43, x44, x45, x46, x47, x48, x49, x50, x51, x52, x53, x54, x55])), (x56, .inl (x57, 68, .inl x58)), (x59, .inl (x60, 68, .inl x61))]
def qagF (x0 : Nat) (x1 : Int32) (x2 : Value) (x3 : Int32) (x4 x5 x6 x7 x8 x9 x10 x11 x12 x13 x14 x15 x16 x17 x18 x19 x20 x21 x22 x23 x24 x25 x26 x27 x28 x29 x30 x31 x32 x33 x34 : Value) (x35 : Int32) (x36 x37 x38 x39 x40 x41 x42 x43 x44 x45 x46 x47 x48 x49 x50 x51 x52 x53 x54 : Value) (x55 : Int32) : va_W := [(x0, .inr (11, [.int x1, x2, .int x3, x4, x5, x6, x7, x8, x9, x10, x11, x12, x13, x14, x15, x16, x17, x18, x19, x20, x21, x22, x23, x24, x25, x26, x27, x28, x29, x30, x31, x32, x33, x34, .int x35, x36, x37, x38, x39, x40, x41, x42, x43, x44, x45, x46, x47, x48, x49, x50, x51, x52, x53, x54, .int x55]))]
def q2k (x0 : Nat) (x1 : Int32) (x2 : Nat) (x3 x4 x5 x6 x7 x8 x9 x10 x11 x12 x13 x14 x15 x16 x17 x18 x19 x20 x21 : Value) (x22 : Int32) (x23 x24 x25 x26 x27 x28 x29 x30 x31 x32 x33 x34 x35 x36 x37 x38 x39 : Value) (x40 : Nat) (x41 x42 x43 x44 x45 x46 x47 x48 x49 x50 x51 x52 x53 x54 x55 : Value) (x56 : Nat) (x57 : ClassId) (x58 : NI) (x59 : Nat) (x60 : ClassId) (x61 : NI) : va_W := [(x0, .inr (11, [.int x1, .ref x2, x3, x4, x5, x6, x7, x8, x9, x10, x11, x12, x13, x14, x15, x16, x17, x18, x19, x20, x21, .int x22, x23, x24, x25, x26, x27, x28, x29, x30, x31, x32, x33, x34, x35, x36, x37, x38, x39, .ref x40, x41, x42, x43, x44, x45, x46, x47, x48, x49, x50, x51, x52, x53, x54, x55])), (x56, .inl (x57, 2, .inl x58)), (x59, .inl (x60, 68, .inl x61))]
def qaZ2 (x0 : Nat) (x1 : Int32) (x2 : Nat) (x3 x4 x5 x6 x7 x8 x9 x10 x11 x12 x13 x14 x15 x16 x17 x18 x19 x20 x21 : Value) (x22 : Int32) (x23 x24 x25 x26 x27 x28 x29 x30 x31 x32 x33 x34 x35 x36 x37 x38 x39 : Value) (x40 : Nat) (x41 x42 x43 x44 x45 x46 x47 x48 x49 x50 x51 x52 x53 x54 x55 : Value) (x56 : Nat) (x57 : ClassId) (x58 : NI) : va_W := [(x0, .inr (11, [.int x1, .ref x2, x3, x4, x5, x6, x7, x8, x9, x10, x11, x12, x13, x14, x15, x16, x17, x18, x19, x20, x21, .int x22, x23, x24, x25, x26, x27, x28, x29, x30, x31, x32, x33, x34, x35, x36, x37, x38, x39, .ref x40, x41, x42, x43, x44, x45, x46, x47, x48, x49, x50, x51, x52, x53, x54, x55])), (x56, .inl (x57, 2, .inl x58))]
def qnU (x0 : Nat) (x1 x2 x3 : Value) (x4 x5 : Int32) (x6 x7 x8 x9 : Value) (x10 : Nat) (x11 x12 x13 x14 x15 x16 x17 x18 x19 x20 x21 x22 x23 x24 x25 x26 x27 x28 x29 x30 x31 x32 x33 x34 x35 x36 x37 x38 x39 x40 x41 x42 x43 x44 x45 x46 x47 x48 x49 x50 x51 x52 x53 x54 x55 : Value) (x56 : Nat) (x57 : ClassId) (x58 : NI) : va_W := [(x0, .inr (11, [x1, x2, x3, .int x4, .int x5, x6, x7, x8, x9, .ref x10, x11, x12, x13, x14, x15, x16, x17, x18, x19, x20, x21, x22, x23, x24, x25, x26, x27, x28, x29, x30, x31, x32, x33, x34, x35, x36, x37, x38, x39, x40, x41, x42, x43, x44, x45, x46, x47, x48, x49, x50, x51, x52, x53, x54, x55])), (x56, .inl (x57, 600, .inl x58))]
def qTW (x0 : Nat) (x1 x2 x3 : Value) (x4 x5 x6 x7 : Int32) (x8 x9 : Value) (x10 : Nat) (x11 x12 x13 x14 x15 x16 x17 x18 : Value) (x19 : Int32) (x20 x21 x22 x23 x24 x25 x26 x27 x28 x29 x30 x31 x32 x33 x34 x35 x36 x37 x38 x39 x40 x41 x42 x43 x44 x45 x46 x47 x48 x49 x50 x51 x52 x53 x54 x55 : Value) (x56 : Nat) (x57 : ClassId) (x58 : NI) : va_W := [(x0, .inr (11, [x1, x2, x3, .int x4, .int x5, .int x6, .int x7, x8, x9, .ref x10, x11, x12, x13, x14, x15, x16, x17, x18, .int x19, x20, x21, x22, x23, x24, x25, x26, x27, x28, x29, x30, x31, x32, x33, x34, x35, x36, x37, x38, x39, x40, x41, x42, x43, x44, x45, x46, x47, x48, x49, x50, x51, x52, x53, x54, x55])), (x56, .inl (x57, 600, .inl x58))]
def qzM (x0 : Nat) (x1 x2 x3 : Value) (x4 x5 x6 x7 : Int32) (x8 x9 : Value) (x10 : Nat) (x11 x12 x13 : Value) (x14 : Nat) (x15 x16 x17 x18 : Value) (x19 : Int32) (x20 x21 x22 x23 x24 x25 x26 x27 x28 x29 x30 x31 x32 x33 x34 x35 x36 x37 x38 x39 x40 x41 x42 x43 x44 x45 x46 x47 x48 x49 x50 x51 x52 x53 x54 x55 : Value) (x56 : Nat) (x57 : ClassId) (x58 : NI) (x59 : Nat) (x60 : ClassId) (x61 : NI) : va_W := [(x0, .inr (11, [x1, x2, x3, .int x4, .int x5, .int x6, .int x7, x8, x9, .ref x10, x11, x12, x13, .ref x14, x15, x16, x17, x18, .int x19, x20, x21, x22, x23, x24, x25, x26, x27, x28, x29, x30, x31, x32, x33, x34, x35, x36, x37, x38, x39, x40, x41, x42, x43, x44, x45, x46, x47, x48, x49, x50, x51, x52, x53, x54, x55])), (x56, .inl (x57, 600, .inl x58)), (x59, .inl (x60, 36, .inl x61))]
def q1J (x0 : Nat) (x1 x2 x3 : Value) (x4 x5 x6 x7 : Int32) (x8 x9 : Value) (x10 : Nat) (x11 x12 x13 : Value) (x14 : Nat) (x15 x16 x17 x18 : Value) (x19 : Int32) (x20 x21 x22 x23 x24 x25 x26 x27 x28 x29 x30 x31 x32 x33 x34 x35 x36 x37 x38 x39 x40 x41 x42 x43 x44 x45 x46 x47 x48 x49 x50 x51 x52 x53 x54 x55 : Value) (x56 : Nat) (x57 : ClassId) (x58 : NI) : va_W := [(x0, .inr (11, [x1, x2, x3, .int x4, .int x5, .int x6, .int x7, x8, x9, .ref x10, x11, x12, x13, .ref x14, x15, x16, x17, x18, .int x19, x20, x21, x22, x23, x24, x25, x26, x27, x28, x29, x30, x31, x32, x33, x34, x35, x36, x37, x38, x39, x40, x41, x42, x43, x44, x45, x46, x47, x48, x49, x50, x51, x52, x53, x54, x55])), (x56, .inl (x57, 600, .inl x58))]
def qaQy (x0 : Nat) (x1 : ClassId) (x2 : NI) : va_W := [(x0, .inl (x1, 36, .inl x2))]
def qal1 (x0 : Nat) (x1 x2 x3 : Value) (x4 x5 x6 x7 : Int32) (x8 x9 : Value) (x10 : Nat) (x11 x12 x13 : Value) (x14 : Nat) (x15 x16 x17 x18 : Value) (x19 : Int32) (x20 x21 x22 x23 x24 x25 x26 x27 x28 x29 x30 x31 x32 x33 x34 x35 x36 x37 x38 x39 x40 x41 x42 x43 x44 x45 x46 x47 x48 x49 x50 x51 x52 x53 x54 x55 : Value) : va_W := [(x0, .inr (11, [x1, x2, x3, .int x4, .int x5, .int x6, .int x7, x8, x9, .ref x10, x11, x12, x13, .ref x14, x15, x16, x17, x18, .int x19, x20, x21, x22, x23, x24, x25, x26, x27, x28, x29, x30, x31, x32, x33, x34, x35, x36, x37, x38, x39, x40, x41, x42, x43, x44, x45, x46, x47, x48, x49, x50, x51, x52, x53, x54, x55]))]
def qaZK (x0 : Nat) (x1 : ClassId) (x2 : NI) (x3 : Nat) (x4 : ClassId) (x5 : NI) : va_W := [(x0, .inl (x1, 600, .inl x2)), (x3, .inl (x4, 36, .inl x5))]
def qhe (x0 : Nat) (x1 x2 x3 x4 x5 x6 x7 x8 x9 x10 : Value) (x11 x12 x13 x14 x15 x16 x17 : Nat) (x18 x19 x20 x21 x22 x23 : Int32) (x24 x25 x26 x27 x28 x29 : Value) (x30 : Int32) (x31 x32 x33 x34 : Value) (x35 x36 : Int32) (x37 x38 x39 : Value) (x40 : Nat) (x41 x42 x43 : Value) (x44 : Nat) (x45 : Int32) (x46 x47 x48 x49 x50 x51 x52 x53 x54 : Value) (x55 : Int32) (x56 : Nat) (x57 : ClassId) (x58 : NI) (x59 : Nat) (x60 : ClassId) (x61 : NI) (x62 : Nat) (x63 : ClassId) (x64 : NI) (x65 : Nat) (x66 : ClassId) (x67 : NI) (x68 : Nat) (x69 : ClassId) (x70 : NI) (x71 : Nat) (x72 : ClassId) (x73 : NI) (x74 : Nat) (x75 : ClassId) (x76 : NI) (x77 : Nat) (x78 : ClassId) (x79 : NI) (x80 : Nat) (x81 : ClassId) (x82 : NI) : va_W := [(x0, .inr (11, [x1, x2, x3, x4, x5, x6, x7, x8, x9, x10, .ref x11, .ref x12, .ref x13, .ref x14, .ref x15, .ref x16, .ref x17, .int x18, .int x19, .int x20, .int x21, .int x22, .int x23, x24, x25, x26, x27, x28, x29, .int x30, x31, x32, x33, x34, .int x35, .int x36, x37, x38, x39, .ref x40, x41, x42, x43, .ref x44, .int x45, x46, x47, x48, x49, x50, x51, x52, x53, x54, .int x55])), (x56, .inl (x57, 16, .inl x58)), (x59, .inl (x60, 16, .inl x61)), (x62, .inl (x63, 12, .inl x64)), (x65, .inl (x66, 12, .inl x67)), (x68, .inl (x69, 8, .inl x70)), (x71, .inl (x72, 8, .inl x73)), (x74, .inl (x75, 8, .inl x76)), (x77, .inl (x78, 68, .inl x79)), (x80, .inl (x81, 36, .inl x82))]
def qa9I (x0 : Nat) (x1 x2 x3 x4 x5 x6 x7 x8 x9 x10 : Value) (x11 x12 x13 x14 x15 x16 x17 : Nat) (x18 x19 x20 x21 x22 x23 : Int32) (x24 x25 x26 x27 x28 x29 : Value) (x30 : Int32) (x31 x32 x33 x34 : Value) (x35 x36 : Int32) (x37 x38 x39 : Value) (x40 : Nat) (x41 x42 x43 : Value) (x44 : Nat) (x45 : Int32) (x46 x47 x48 x49 x50 x51 x52 x53 x54 : Value) (x55 : Int32) (x56 : Nat) (x57 : ClassId) (x58 : NI) (x59 : Nat) (x60 : ClassId) (x61 : NI) : va_W := [(x0, .inr (11, [x1, x2, x3, x4, x5, x6, x7, x8, x9, x10, .ref x11, .ref x12, .ref x13, .ref x14, .ref x15, .ref x16, .ref x17, .int x18, .int x19, .int x20, .int x21, .int x22, .int x23, x24, x25, x26, x27, x28, x29, .int x30, x31, x32, x33, x34, .int x35, .int x36, x37, x38, x39, .ref x40, x41, x42, x43, .ref x44, .int x45, x46, x47, x48, x49, x50, x51, x52, x53, x54, .int x55])), (x56, .inl (x57, 16, .inl x58)), (x59, .inl (x60, 16, .inl x61))]
def qa58 (x0 : Nat) (x1 x2 x3 x4 x5 x6 x7 x8 x9 x10 : Value) (x11 x12 x13 x14 x15 x16 x17 : Nat) (x18 x19 x20 x21 x22 x23 : Int32) (x24 x25 x26 x27 x28 x29 : Value) (x30 : Int32) (x31 x32 x33 x34 : Value) (x35 x36 : Int32) (x37 x38 x39 : Value) (x40 : Nat) (x41 x42 x43 : Value) (x44 : Nat) (x45 : Int32) (x46 x47 x48 x49 x50 x51 x52 x53 x54 : Value) (x55 : Int32) (x56 : Nat) (x57 : ClassId) (x58 : NI) (x59 : Nat) (x60 : ClassId) (x61 : NI) : va_W := [(x0, .inr (11, [x1, x2, x3, x4, x5, x6, x7, x8, x9, x10, .ref x11, .ref x12, .ref x13, .ref x14, .ref x15, .ref x16, .ref x17, .int x18, .int x19, .int x20, .int x21, .int x22, .int x23, x24, x25, x26, x27, x28, x29, .int x30, x31, x32, x33, x34, .int x35, .int x36, x37, x38, x39, .ref x40, x41, x42, x43, .ref x44, .int x45, x46, x47, x48, x49, x50, x51, x52, x53, x54, .int x55])), (x56, .inl (x57, 12, .inl x58)), (x59, .inl (x60, 12, .inl x61))]
def qa6G (x0 : Nat) (x1 x2 x3 x4 x5 x6 x7 x8 x9 x10 : Value) (x11 x12 x13 x14 x15 x16 x17 : Nat) (x18 x19 x20 x21 x22 x23 : Int32) (x24 x25 x26 x27 x28 x29 : Value) (x30 : Int32) (x31 x32 x33 x34 : Value) (x35 x36 : Int32) (x37 x38 x39 : Value) (x40 : Nat) (x41 x42 x43 : Value) (x44 : Nat) (x45 : Int32) (x46 x47 x48 x49 x50 x51 x52 x53 x54 : Value) (x55 : Int32) (x56 : Nat) (x57 : ClassId) (x58 : NI) (x59 : Nat) (x60 : ClassId) (x61 : NI) : va_W := [(x0, .inr (11, [x1, x2, x3, x4, x5, x6, x7, x8, x9, x10, .ref x11, .ref x12, .ref x13, .ref x14, .ref x15, .ref x16, .ref x17, .int x18, .int x19, .int x20, .int x21, .int x22, .int x23, x24, x25, x26, x27, x28, x29, .int x30, x31, x32, x33, x34, .int x35, .int x36, x37, x38, x39, .ref x40, x41, x42, x43, .ref x44, .int x45, x46, x47, x48, x49, x50, x51, x52, x53, x54, .int x55])), (x56, .inl (x57, 8, .inl x58)), (x59, .inl (x60, 8, .inl x61))]
def qXP (x0 : Nat) (x1 x2 x3 x4 x5 x6 x7 x8 x9 x10 x11 x12 x13 x14 x15 x16 x17 x18 x19 x20 x21 x22 x23 x24 x25 x26 x27 x28 x29 x30 x31 x32 x33 x34 x35 x36 x37 x38 x39 x40 x41 x42 x43 x44 x45 x46 x47 x48 x49 x50 x51 : Value) (x52 : Int32) (x53 x54 x55 : Value) : va_W := [(x0, .inr (11, [x1, x2, x3, x4, x5, x6, x7, x8, x9, x10, x11, x12, x13, x14, x15, x16, x17, x18, x19, x20, x21, x22, x23, x24, x25, x26, x27, x28, x29, x30, x31, x32, x33, x34, x35, x36, x37, x38, x39, x40, x41, x42, x43, x44, x45, x46, x47, x48, x49, x50, x51, .int x52, x53, x54, x55]))]
def qHg (x0 : Nat) (x1 x2 x3 x4 x5 : Value) (x6 : Int32) (x7 x8 x9 x10 x11 x12 x13 x14 x15 x16 x17 x18 x19 x20 x21 x22 x23 : Value) (x24 x25 : Nat) (x26 x27 x28 : Value) (x29 : Int32) (x30 x31 x32 x33 x34 x35 x36 x37 x38 x39 x40 x41 x42 x43 x44 x45 x46 x47 x48 x49 x50 x51 x52 x53 x54 x55 : Value) (x56 : Nat) (x57 : ClassId) (x58 : NI) (x59 : Nat) (x60 : ClassId) (x61 : NI) : va_W := [(x0, .inr (11, [x1, x2, x3, x4, x5, .int x6, x7, x8, x9, x10, x11, x12, x13, x14, x15, x16, x17, x18, x19, x20, x21, x22, x23, .ref x24, .ref x25, x26, x27, x28, .int x29, x30, x31, x32, x33, x34, x35, x36, x37, x38, x39, x40, x41, x42, x43, x44, x45, x46, x47, x48, x49, x50, x51, x52, x53, x54, x55])), (x56, .inl (x57, 150, .inl x58)), (x59, .inl (x60, 150, .inl x61))]
def qa8H (x0 : Nat) (x1 x2 x3 x4 x5 : Value) (x6 : Int32) (x7 x8 x9 x10 x11 x12 x13 x14 x15 x16 x17 x18 x19 x20 x21 x22 x23 : Value) (x24 x25 : Nat) (x26 x27 x28 : Value) (x29 : Int32) (x30 x31 x32 x33 x34 x35 x36 x37 x38 x39 x40 x41 x42 x43 x44 x45 x46 x47 x48 x49 x50 x51 x52 x53 x54 x55 : Value) : va_W := [(x0, .inr (11, [x1, x2, x3, x4, x5, .int x6, x7, x8, x9, x10, x11, x12, x13, x14, x15, x16, x17, x18, x19, x20, x21, x22, x23, .ref x24, .ref x25, x26, x27, x28, .int x29, x30, x31, x32, x33, x34, x35, x36, x37, x38, x39, x40, x41, x42, x43, x44, x45, x46, x47, x48, x49, x50, x51, x52, x53, x54, x55]))]
def qMC (x0 : Nat) (x1 : Int32) (x2 : Nat) (x3 x4 x5 x6 x7 x8 x9 x10 x11 x12 x13 x14 : Value) (x15 : Nat) (x16 x17 x18 x19 x20 : Value) (x21 : Int32) (x22 x23 x24 x25 x26 x27 x28 x29 x30 x31 x32 x33 x34 x35 x36 x37 x38 x39 x40 x41 x42 x43 x44 x45 x46 x47 x48 x49 x50 x51 x52 x53 x54 x55 : Value) (x56 : Nat) (x57 : ClassId) (x58 : NI) (x59 : Nat) (x60 : ClassId) (x61 : NI) : va_W := [(x0, .inr (11, [.int x1, .ref x2, x3, x4, x5, x6, x7, x8, x9, x10, x11, x12, x13, x14, .ref x15, x16, x17, x18, x19, x20, .int x21, x22, x23, x24, x25, x26, x27, x28, x29, x30, x31, x32, x33, x34, x35, x36, x37, x38, x39, x40, x41, x42, x43, x44, x45, x46, x47, x48, x49, x50, x51, x52, x53, x54, x55])), (x56, .inl (x57, 2, .inl x58)), (x59, .inl (x60, 16, .inl x61))]
def qaOH (x0 : Nat) (x1 : Int32) (x2 : Nat) (x3 x4 x5 x6 x7 x8 x9 x10 x11 x12 x13 x14 : Value) (x15 : Nat) (x16 x17 x18 x19 x20 : Value) (x21 : Int32) (x22 x23 x24 x25 x26 x27 x28 x29 x30 x31 x32 x33 x34 x35 x36 x37 x38 x39 x40 x41 x42 x43 x44 x45 x46 x47 x48 x49 x50 x51 x52 x53 x54 x55 : Value) (x56 : Nat) (x57 : ClassId) (x58 : NI) : va_W := [(x0, .inr (11, [.int x1, .ref x2, x3, x4, x5, x6, x7, x8, x9, x10, x11, x12, x13, x14, .ref x15, x16, x17, x18, x19, x20, .int x21, x22, x23, x24, x25, x26, x27, x28, x29, x30, x31, x32, x33, x34, x35, x36, x37, x38, x39, x40, x41, x42, x43, x44, x45, x46, x47, x48, x49, x50, x51, x52, x53, x54, x55])), (x56, .inl (x57, 2, .inl x58))]
def qbaz (x0 : Nat) (x1 : ClassId) (x2 : NI) : va_W := [(x0, .inl (x1, 16, .inl x2))]
def qa9z (x0 : Nat) (x1 : Int32) (x2 : Nat) (x3 x4 x5 x6 x7 x8 x9 x10 x11 x12 x13 x14 : Value) (x15 : Nat) (x16 x17 x18 x19 x20 : Value) (x21 : Int32) (x22 x23 x24 x25 x26 x27 x28 x29 x30 x31 x32 x33 x34 x35 x36 x37 x38 x39 x40 x41 x42 x43 x44 x45 x46 x47 x48 x49 x50 x51 x52 x53 x54 x55 : Value) (x56 : Nat) (x57 : ClassId) (x58 : NI) : va_W := [(x0, .inr (11, [.int x1, .ref x2, x3, x4, x5, x6, x7, x8, x9, x10, x11, x12, x13, x14, .ref x15, x16, x17, x18, x19, x20, .int x21, x22, x23, x24, x25, x26, x27, x28, x29, x30, x31, x32, x33, x34, x35, x36, x37, x38, x39, x40, x41, x42, x43, x44, x45, x46, x47, x48, x49, x50, x51, x52, x53, x54, x55])), (x56, .inl (x57, 16, .inl x58))]
def qWw (x0 : Nat) (x1 : Int32) (x2 x3 x4 x5 x6 x7 x8 : Value) (x9 : Int32) (x10 x11 x12 x13 x14 x15 x16 x17 x18 x19 x20 x21 x22 x23 x24 x25 x26 x27 x28 x29 x30 x31 x32 x33 x34 x35 x36 x37 x38 x39 x40 x41 x42 x43 x44 x45 x46 x47 x48 x49 x50 x51 x52 x53 x54 x55 : Value) : va_W := [(x0, .inr (11, [.int x1, x2, x3, x4, x5, x6, x7, x8, .int x9, x10, x11, x12, x13, x14, x15, x16, x17, x18, x19, x20, x21, x22, x23, x24, x25, x26, x27, x28, x29, x30, x31, x32, x33, x34, x35, x36, x37, x38, x39, x40, x41, x42, x43, x44, x45, x46, x47, x48, x49, x50, x51, x52, x53, x54, x55]))]
def qwk (x0 : Nat) (x1 : Int32) (x2 : Value) (x3 : Int32) (x4 x5 x6 x7 x8 x9 : Value) (x10 : Nat) (x11 x12 x13 x14 x15 x16 x17 x18 x19 x20 x21 x22 x23 x24 x25 x26 x27 x28 x29 x30 x31 x32 x33 x34 x35 x36 x37 x38 x39 x40 x41 x42 x43 x44 x45 x46 x47 x48 x49 x50 x51 x52 x53 x54 x55 : Value) (x56 : Nat) (x57 : ClassId) (x58 : NI) : va_W := [(x0, .inr (11, [.int x1, x2, .int x3, x4, x5, x6, x7, x8, x9, .ref x10, x11, x12, x13, x14, x15, x16, x17, x18, x19, x20, x21, x22, x23, x24, x25, x26, x27, x28, x29, x30, x31, x32, x33, x34, x35, x36, x37, x38, x39, x40, x41, x42, x43, x44, x45, x46, x47, x48, x49, x50, x51, x52, x53, x54, x55])), (x56, .inl (x57, 600, .inl x58))]
def qdL (x0 : Nat) (x1 : Int32) (x2 : Nat) (x3 x4 x5 x6 x7 x8 x9 x10 x11 x12 x13 x14 x15 x16 x17 x18 x19 x20 x21 x22 x23 x24 x25 x26 x27 x28 x29 x30 x31 x32 x33 x34 x35 x36 x37 x38 x39 x40 x41 x42 x43 x44 x45 x46 x47 x48 x49 x50 : Value) (x51 : Nat) (x52 x53 x54 x55 : Value) (x56 : Nat) (x57 : ClassId) (x58 : NI) (x59 : Nat) (x60 : ClassId) (x61 : Nat → Int64) : va_W := [(x0, .inr (11, [.int x1, .ref x2, x3, x4, x5, x6, x7, x8, x9, x10, x11, x12, x13, x14, x15, x16, x17, x18, x19, x20, x21, x22, x23, x24, x25, x26, x27, x28, x29, x30, x31, x32, x33, x34, x35, x36, x37, x38, x39, x40, x41, x42, x43, x44, x45, x46, x47, x48, x49, x50, .ref x51, x52, x53, x54, x55])), (x56, .inl (x57, 2, .inl x58)), (x59, .inl (x60, 14, .inr (.inl x61)))]
def qa6t (x0 : Nat) (x1 : Int32) (x2 : Nat) (x3 x4 x5 x6 x7 x8 x9 x10 x11 x12 x13 x14 x15 x16 x17 x18 x19 x20 x21 x22 x23 x24 x25 x26 x27 x28 x29 x30 x31 x32 x33 x34 x35 x36 x37 x38 x39 x40 x41 x42 x43 x44 x45 x46 x47 x48 x49 x50 : Value) (x51 : Nat) (x52 x53 x54 x55 : Value) (x56 : Nat) (x57 : ClassId) (x58 : NI) : va_W := [(x0, .inr (11, [.int x1, .ref x2, x3, x4, x5, x6, x7, x8, x9, x10, x11, x12, x13, x14, x15, x16, x17, x18, x19, x20, x21, x22, x23, x24, x25, x26, x27, x28, x29, x30, x31, x32, x33, x34, x35, x36, x37, x38, x39, x40, x41, x42, x43, x44, x45, x46, x47, x48, x49, x50, .ref x51, x52, x53, x54, x55])), (x56, .inl (x57, 2, .inl x58))]
def qze (x0 : Nat) (x1 x2 x3 x4 x5 x6 x7 x8 x9 x10 x11 x12 x13 x14 : Value) (x15 : Nat) (x16 x17 x18 x19 x20 : Value) (x21 x22 : Int32) (x23 x24 x25 : Value) (x26 x27 x28 : Nat) (x29 : Value) (x30 : Int32) (x31 : Nat) (x32 x33 x34 x35 x36 x37 x38 x39 x40 : Value) (x41 : Nat) (x42 x43 x44 x45 x46 x47 x48 x49 x50 x51 x52 x53 x54 x55 : Value) (x56 : Nat) (x57 : ClassId) (x58 : NI) (x59 : Nat) (x60 : ClassId) (x61 : NI) (x62 : Nat) (x63 : ClassId) (x64 : NI) (x65 : Nat) (x66 : ClassId) (x67 : NI) (x68 : Nat) (x69 : ClassId) (x70 : NI) (x71 : Nat) (x72 : ClassId) (x73 : NI) : va_W := [(x0, .inr (11, [x1, x2, x3, x4, x5, x6, x7, x8, x9, x10, x11, x12, x13, x14, .ref x15, x16, x17, x18, x19, x20, .int x21, .int x22, x23, x24, x25, .ref x26, .ref x27, .ref x28, x29, .int x30, .ref x31, x32, x33, x34, x35, x36, x37, x38, x39, x40, .ref x41, x42, x43, x44, x45, x46, x47, x48, x49, x50, x51, x52, x53, x54, x55])), (x56, .inl (x57, 68, .inl x58)), (x59, .inl (x60, 16, .inl x61)), (x62, .inl (x63, 8, .inl x64)), (x65, .inl (x66, 150, .inl x67)), (x68, .inl (x69, 150, .inl x70)), (x71, .inl (x72, 150, .inl x73))]
def qzH (x0 : Nat) (x1 x2 x3 x4 x5 x6 x7 x8 x9 x10 x11 x12 x13 x14 : Value) (x15 : Nat) (x16 : Value) (x17 : Nat) (x18 x19 x20 : Value) (x21 : Int32) (x22 : Value) (x23 : Int32) (x24 x25 x26 x27 x28 x29 x30 x31 x32 x33 x34 x35 x36 x37 x38 x39 x40 x41 x42 x43 x44 x45 x46 x47 x48 x49 x50 x51 x52 x53 x54 x55 : Value) (x56 : Nat) (x57 : ClassId) (x58 : NI) (x59 : Nat) (x60 : ClassId) (x61 : NI) : va_W := [(x0, .inr (11, [x1, x2, x3, x4, x5, x6, x7, x8, x9, x10, x11, x12, x13, x14, .ref x15, x16, .ref x17, x18, x19, x20, .int x21, x22, .int x23, x24, x25, x26, x27, x28, x29, x30, x31, x32, x33, x34, x35, x36, x37, x38, x39, x40, x41, x42, x43, x44, x45, x46, x47, x48, x49, x50, x51, x52, x53, x54, x55])), (x56, .inl (x57, 16, .inl x58)), (x59, .inl (x60, 8, .inl x61))]
def qbN (x0 : Nat) (x1 x2 x3 x4 x5 x6 x7 x8 x9 x10 x11 x12 x13 x14 : Value) (x15 : Nat) (x16 : Value) (x17 : Nat) (x18 x19 x20 : Value) (x21 x22 x23 : Int32) (x24 x25 : Value) (x26 x27 x28 : Nat) (x29 : Value) (x30 : Int32) (x31 : Nat) (x32 x33 x34 x35 x36 x37 x38 x39 : Value) (x40 x41 : Nat) (x42 x43 x44 x45 : Value) (x46 x47 x48 : Nat) (x49 x50 x51 x52 x53 x54 x55 : Value) (x56 : Nat) (x57 : ClassId) (x58 : NI) (x59 : Nat) (x60 : ClassId) (x61 : NI) (x62 : Nat) (x63 : ClassId) (x64 : NI) (x65 : Nat) (x66 : ClassId) (x67 : NI) (x68 : Nat) (x69 : ClassId) (x70 : NI) (x71 : Nat) (x72 : ClassId) (x73 : NI) (x74 : Nat) (x75 : ClassId) (x76 : NI) (x77 : Nat) (x78 : ClassId) (x79 : NI) (x80 : Nat) (x81 : ClassId) (x82 : NI) (x83 : Nat) (x84 : ClassId) (x85 : NI) (x86 : Nat) (x87 : ClassId) (x88 : NI) : va_W := [(x0, .inr (11, [x1, x2, x3, x4, x5, x6, x7, x8, x9, x10, x11, x12, x13, x14, .ref x15, x16, .ref x17, x18, x19, x20, .int x21, .int x22, .int x23, x24, x25, .ref x26, .ref x27, .ref x28, x29, .int x30, .ref x31, x32, x33, x34, x35, x36, x37, x38, x39, .ref x40, .ref x41, x42, x43, x44, x45, .ref x46, .ref x47, .ref x48, x49, x50, x51, x52, x53, x54, x55])), (x56, .inl (x57, 68, .inl x58)), (x59, .inl (x60, 68, .inl x61)), (x62, .inl (x63, 16, .inl x64)), (x65, .inl (x66, 8, .inl x67)), (x68, .inl (x69, 150, .inl x70)), (x71, .inl (x72, 150, .inl x73)), (x74, .inl (x75, 150, .inl x76)), (x77, .inl (x78, 8, .inl x79)), (x80, .inl (x81, 1792, .inl x82)), (x83, .inl (x84, 6, .inl x85)), (x86, .inl (x87, 6, .inl x88))]
def qa5g (x0 : Nat) (x1 x2 x3 x4 x5 x6 x7 x8 x9 x10 x11 x12 x13 x14 : Value) (x15 : Nat) (x16 : Value) (x17 : Nat) (x18 x19 x20 : Value) (x21 x22 x23 : Int32) (x24 x25 : Value) (x26 x27 x28 : Nat) (x29 : Value) (x30 : Int32) (x31 : Nat) (x32 x33 x34 x35 x36 x37 x38 x39 : Value) (x40 x41 : Nat) (x42 x43 x44 x45 : Value) (x46 x47 x48 : Nat) (x49 x50 x51 x52 x53 x54 x55 : Value) (x56 : Nat) (x57 : ClassId) (x58 : NI) : va_W := [(x0, .inr (11, [x1, x2, x3, x4, x5, x6, x7, x8, x9, x10, x11, x12, x13, x14, .ref x15, x16, .ref x17, x18, x19, x20, .int x21, .int x22, .int x23, x24, x25, .ref x26, .ref x27, .ref x28, x29, .int x30, .ref x31, x32, x33, x34, x35, x36, x37, x38, x39, .ref x40, .ref x41, x42, x43, x44, x45, .ref x46, .ref x47, .ref x48, x49, x50, x51, x52, x53, x54, x55])), (x56, .inl (x57, 68, .inl x58))]
def qa26 (x0 : Nat) (x1 x2 x3 x4 x5 x6 x7 x8 x9 x10 x11 x12 x13 x14 : Value) (x15 : Nat) (x16 : Value) (x17 : Nat) (x18 x19 x20 : Value) (x21 x22 x23 : Int32) (x24 x25 : Value) (x26 x27 x28 : Nat) (x29 : Value) (x30 : Int32) (x31 : Nat) (x32 x33 x34 x35 x36 x37 x38 x39 : Value) (x40 x41 : Nat) (x42 x43 x44 x45 : Value) (x46 x47 x48 : Nat) (x49 x50 x51 x52 x53 x54 x55 : Value) (x56 : Nat) (x57 : ClassId) (x58 : NI) (x59 : Nat) (x60 : ClassId) (x61 : NI) (x62 : Nat) (x63 : ClassId) (x64 : NI) (x65 : Nat) (x66 : ClassId) (x67 : NI) (x68 : Nat) (x69 : ClassId) (x70 : NI) (x71 : Nat) (x72 : ClassId) (x73 : NI) : va_W := [(x0, .inr (11, [x1, x2, x3, x4, x5, x6, x7, x8, x9, x10, x11, x12, x13, x14, .ref x15, x16, .ref x17, x18, x19, x20, .int x21, .int x22, .int x23, x24, x25, .ref x26, .ref x27, .ref x28, x29, .int x30, .ref x31, x32, x33, x34, x35, x36, x37, x38, x39, .ref x40, .ref x41, x42, x43, x44, x45, .ref x46, .ref x47, .ref x48, x49, x50, x51, x52, x53, x54, x55])), (x56, .inl (x57, 68, .inl x58)), (x59, .inl (x60, 16, .inl x61)), (x62, .inl (x63, 8, .inl x64)), (x65, .inl (x66, 150, .inl x67)), (x68, .inl (x69, 150, .inl x70)), (x71, .inl (x72, 150, .inl x73))]
def qa4l (x0 : Nat) (x1 x2 x3 x4 x5 x6 x7 x8 x9 x10 x11 x12 x13 x14 : Value) (x15 : Nat) (x16 : Value) (x17 : Nat) (x18 x19 x20 : Value) (x21 x22 x23 : Int32) (x24 x25 : Value) (x26 x27 x28 : Nat) (x29 : Value) (x30 : Int32) (x31 : Nat) (x32 x33 x34 x35 x36 x37 x38 x39 : Value) (x40 x41 : Nat) (x42 x43 x44 x45 : Value) (x46 x47 x48 : Nat) (x49 x50 x51 x52 x53 x54 x55 : Value) (x56 : Nat) (x57 : ClassId) (x58 : NI) (x59 : Nat) (x60 : ClassId) (x61 : NI) : va_W := [(x0, .inr (11, [x1, x2, x3, x4, x5, x6, x7, x8, x9, x10, x11, x12, x13, x14, .ref x15, x16, .ref x17, x18, x19, x20, .int x21, .int x22, .int x23, x24, x25, .ref x26, .ref x27, .ref x28, x29, .int x30, .ref x31, x32, x33, x34, x35, x36, x37, x38, x39, .ref x40, .ref x41, x42, x43, x44, x45, .ref x46, .ref x47, .ref x48, x49, x50, x51, x52, x53, x54, x55])), (x56, .inl (x57, 16, .inl x58)), (x59, .inl (x60, 8, .inl x61))]
def qa6k (x0 : Nat) (x1 x2 x3 x4 x5 x6 x7 x8 x9 x10 x11 x12 x13 x14 : Value) (x15 : Nat) (x16 : Value) (x17 : Nat) (x18 x19 x20 : Value) (x21 x22 x23 : Int32) (x24 x25 : Value) (x26 x27 x28 : Nat) (x29 : Value) (x30 : Int32) (x31 : Nat) (x32 x33 x34 x35 x36 x37 x38 x39 : Value) (x40 x41 : Nat) (x42 x43 x44 x45 : Value) (x46 x47 x48 : Nat) (x49 x50 x51 x52 x53 x54 x55 : Value) (x56 : Nat) (x57 : ClassId) (x58 : NI) (x59 : Nat) (x60 : ClassId) (x61 : NI) : va_W := [(x0, .inr (11, [x1, x2, x3, x4, x5, x6, x7, x8, x9, x10, x11, x12, x13, x14, .ref x15, x16, .ref x17, x18, x19, x20, .int x21, .int x22, .int x23, x24, x25, .ref x26, .ref x27, .ref x28, x29, .int x30, .ref x31, x32, x33, x34, x35, x36, x37, x38, x39, .ref x40, .ref x41, x42, x43, x44, x45, .ref x46, .ref x47, .ref x48, x49, x50, x51, x52, x53, x54, x55])), (x56, .inl (x57, 68, .inl x58)), (x59, .inl (x60, 68, .inl x61))]
theorem qacr : ∀ w ∈ u_ws RX11 TX11 55, w ∈ wsX11_cloverBy := uiM qKJ qga (by decide +kernel)
theorem q5v : (.fieldLink RX11 169 "MarchHaresModel" "hares" "I" : Cond) ∈ wsX11_cloverBy := qKJ 520 (by decide +kernel)
set_option maxHeartbeats 4000000 in
set_option maxRecDepth 100000 in
theorem qSD {p : Program} {l : Launch} {e : Env} {s : State} {m : MethodId} {args : Array Value} {below : List Frame} {meth : Method} {c : Code} {A : Nat → Prop} (dC : Nat → ClassId) (dI : Nat → Nat → Nat) (cyB cyI cyJ cyP : ClassId) (a0 a0_s : Nat) (jaX jaF jaD ja7 jby jbf jaM jaY jap jaK jal jam jax jao ja6 jaV ja8 jae jag jaf ja0 jaP jaw jaI jaZ jaH jaS jan jaU jaE jar jaL jah jaB jaa jaz jaG jab ja2 jaq jai jaO jaA jat jau jav jaj jas jaJ jak jad jay jac : Value) (jaC : Int32) (f0_s : NI) (Q : Int32 → Prop) (K5 : Int32 → Int32 → Int32 → Int32 → Prop) (hK5 : ∀ (H : Heap) (locs : List Loc) (ls : Array Slot) (l1 l2 l3 l4 : Int32), va_P (dC, dI) vwCl (qDh a0 jaX jaF jaD ja7 jby jbf jaM jaY jap jaK jal jam jax jao ja6 jaV ja8 jae jag jaf ja0 jaC jaP jaw jaI jaZ jaH jaS jan jaU jaE jar jaL jah jaB jaa jaz jaG jab ja2 a0_s jaq jai jaO jaA jat jau jav jaj jas jaJ jak jad jay jac a0_s cyI f0_s) H → va_D A (qDh a0 jaX jaF jaD ja7 jby jbf jaM jaY jap jaK jal jam jax jao ja6 jaV ja8 jae jag jaf ja0 jaC jaP jaw jaI jaZ jaH jaS jan jaU jaE jar jaL jah jaB jaa jaz jaG jab ja2 a0_s jaq jai jaO jaA jat jau jav jaj jas jaJ jak jad jay jac a0_s cyI f0_s) → va_S A s.heap H locs → lv_has ls 5 [(0, .ref a0), (1, .int l1), (2, .int l2), (3, .int l3), (4, .int l4)] → K5 l1 l2 l3 l4 → W p l e (headSpec wsX11_cloverBy ({ frames := 1, cells := 0, slots := 0, locals := 23 })).room s m args below meth c H locs 0 0 (MQ below (va_Qi (fun (r : Int32) (_ : Unit) => Q r ) (cB (dC, dI) (kT cyB cyI cyJ cyP) A (fun u : Unit => ((qDh a0 jaX jaF jaD ja7 jby jbf jaM jaY jap jaK jal jam jax jao ja6 jaV ja8 jae jag jaf ja0 jaC jaP jaw jaI jaZ jaH jaS jan jaU jaE jar jaL jah jaB jaa jaz jaG jab ja2 a0_s jaq jai jaO jaA jat jau jav jaj jas jaJ jak jad jay jac a0_s cyI f0_s) : va_W))) A) args s 0 0 A) (F0 m 5 ls [])) (C0 : cfx p s m args meth c cX11_cloverBy (some .int) wsX11_cloverBy RX11 5 A (dC, dI) (kT cyB cyI cyJ cyP)) : ∀ (H : Heap) (locs : List Loc) (ls : Array Slot) (l1 l2 l4 s0 s1 s2 : Int32), va_P (dC, dI) vwCl (qDh a0 jaX jaF jaD ja7 jby jbf jaM jaY jap jaK jal jam jax jao ja6 jaV ja8 jae jag jaf ja0 jaC jaP jaw jaI jaZ jaH jaS jan jaU jaE jar jaL jah jaB jaa jaz jaG jab ja2 a0_s jaq jai jaO jaA jat jau jav jaj jas jaJ jak jad jay jac a0_s cyI f0_s) H → va_D A (qDh a0 jaX jaF jaD ja7 jby jbf jaM jaY jap jaK jal jam jax jao ja6 jaV ja8 jae jag jaf ja0 jaC jaP jaw jaI jaZ jaH jaS jan jaU jaE jar jaL jah jaB jaa jaz jaG jab ja2 a0_s jaq jai jaO jaA jat jau jav jaj jas jaJ jak jad jay jac a0_s cyI f0_s) → va_S A s.heap H locs → lv_has ls 5 [(0, .ref a0), (1, .int l1), (2, .int l2), (4, .int l4)] → qHv jaC f0_s Q K5 l1 l2 l4 s0 s1 s2 → W p l e (headSpec wsX11_cloverBy ({ frames := 1, cells := 0, slots := 0, locals := 23 })).room s m args below meth c H locs 0 0 (MQ below (va_Qi (fun (r : Int32) (_ : Unit) => Q r ) (cB (dC, dI) (kT cyB cyI cyJ cyP) A (fun u : Unit => ((qDh a0 jaX jaF jaD ja7 jby jbf jaM jaY jap jaK jal jam jax jao ja6 jaV ja8 jae jag jaf ja0 jaC jaP jaw jaI jaZ jaH jaS jan jaU jaE jar jaL jah jaB jaa jaz jaG jab ja2 a0_s jaq jai jaO jaA jat jau jav jaj jas jaJ jak jad jay jac a0_s cyI f0_s) : va_W))) A) args s 0 0 A) (F0 m 41 ls [.int s2, .int s1, .int s0]) := by
  obtain ⟨hx, hb, hr, hts, hown, hlocks, hml, hA, hK, hNw⟩ := id C0
  intro H locs ls l1 l2 l4 s0 s1 s2 hP hD hS hl hw
  refine lv_imul hx hb (qaa qdP 8 rfl) ?_
  refine lv_iadd hx hb (qaa qdP 9 rfl) ?_
  refine lv_topi (fun x5 ex5 => ?_)
  have hw := hw x5 ex5
  refine lv_istore_n (lv' := [(3, .int x5), (0, .ref a0), (1, .int l1), (2, .int l2), (4, .int l4)]) hx hb (qaa qdP 10 rfl) rfl hl (by decide) rfl (fun ls hl => ?_)
  obtain ⟨x6, ex6⟩ : ∃ y : Int32, y = l4 + 1 := ⟨_, rfl⟩
  have hw := hw x6 ex6
  refine lv_iinc (v := x6) (lv' := [(4, .int x6), (3, .int x5), (0, .ref a0), (1, .int l1), (2, .int l2)]) hx hb (qaa qdP 11 rfl) hl (k := 4) rfl (by rw [ex6]; rfl) (by decide) rfl (fun ls hl => ?_)
  refine lv_goto (tgt := 5) hx hb (qaa qdP 12 rfl) (by decide) ?_
  exact hK5 _ _ _ l1 l2 x5 x6 hP hD hS (lv_sub hl [2, 3, 4, 1, 0] rfl) hw
set_option maxHeartbeats 4000000 in
set_option maxRecDepth 100000 in
theorem qaii {p : Program} {l : Launch} {e : Env} {s : State} {m : MethodId} {args : Array Value} {below : List Frame} {meth : Method} {c : Code} {A : Nat → Prop} (dC : Nat → ClassId) (dI : Nat → Nat → Nat) (cyB cyI cyJ cyP : ClassId) (a0 a0_s : Nat) (jaX jaF jaD ja7 jby jbf jaM jaY jap jaK jal jam jax jao ja6 jaV ja8 jae jag jaf ja0 jaP jaw jaI jaZ jaH jaS jan jaU jaE jar jaL jah jaB jaa jaz jaG jab ja2 jaq jai jaO jaA jat jau jav jaj jas jaJ jak jad jay jac : Value) (jaC : Int32) (f0_s : NI) (Q : Int32 → Prop) (C0 : cfx p s m args meth c cX11_cloverBy (some .int) wsX11_cloverBy RX11 5 A (dC, dI) (kT cyB cyI cyJ cyP)) : ∀ (n : Nat) (H : Heap) (locs : List Loc) (ls : Array Slot) (l1 l2 l3 l4 : Int32), va_P (dC, dI) vwCl (qDh a0 jaX jaF jaD ja7 jby jbf jaM jaY jap jaK jal jam jax jao ja6 jaV ja8 jae jag jaf ja0 jaC jaP jaw jaI jaZ jaH jaS jan jaU jaE jar jaL jah jaB jaa jaz jaG jab ja2 a0_s jaq jai jaO jaA jat jau jav jaj jas jaJ jak jad jay jac a0_s cyI f0_s) H → va_D A (qDh a0 jaX jaF jaD ja7 jby jbf jaM jaY jap jaK jal jam jax jao ja6 jaV ja8 jae jag jaf ja0 jaC jaP jaw jaI jaZ jaH jaS jan jaU jaE jar jaL jah jaB jaa jaz jaG jab ja2 a0_s jaq jai jaO jaA jat jau jav jaj jas jaJ jak jad jay jac a0_s cyI f0_s) → va_S A s.heap H locs → lv_has ls 5 [(0, .ref a0), (1, .int l1), (2, .int l2), (3, .int l3), (4, .int l4)] → qsS jaC f0_s Q n l1 l2 l3 l4 → W p l e (headSpec wsX11_cloverBy ({ frames := 1, cells := 0, slots := 0, locals := 23 })).room s m args below meth c H locs 0 0 (MQ below (va_Qi (fun (r : Int32) (_ : Unit) => Q r ) (cB (dC, dI) (kT cyB cyI cyJ cyP) A (fun u : Unit => ((qDh a0 jaX jaF jaD ja7 jby jbf jaM jaY jap jaK jal jam jax jao ja6 jaV ja8 jae jag jaf ja0 jaC jaP jaw jaI jaZ jaH jaS jan jaU jaE jar jaL jah jaB jaa jaz jaG jab ja2 a0_s jaq jai jaO jaA jat jau jav jaj jas jaJ jak jad jay jac a0_s cyI f0_s) : va_W))) A) args s 0 0 A) (F0 m 5 ls []) := by
  obtain ⟨hx, hb, hr, hts, hown, hlocks, hml, hA, hK, hNw⟩ := id C0
  intro n
  induction n with
  | zero => intro H locs ls l1 l2 l3 l4 hP hD hS hl hw; exact False.elim hw
  | succ n ih =>
    intro H locs ls l1 l2 l3 l4 hP hD hS hl hw
    refine lv_iload hx hb (qaa qev 4 rfl) (lv_at hl 4 rfl) ?_
    refine lv_aload_n hx hb (qaa qev 5 rfl) rfl (lv_at hl 0 rfl) ?_
    refine va_get (D := (dC, dI)) (ci := 11) (v := .int jaC) (C := RX11) (T := TX11) (N := 55) hx hb hts qacr hown hK hP 0 rfl rfl 21 (by decide) (hts _ q5v) (fun _ h9 => h9) rfl (qaa qev 6 rfl) ?_
    refine lv_icmp_ge (tgt := 50) hx hb (qaa qev 7 rfl) (by decide) (fun c1 => ?_) (fun c1 => ?_)
    · have hw := hw.1 c1
      refine lv_iload_n hx hb (qaa qdP 13 rfl) rfl (lv_at hl 3 rfl) ?_
      exact ((W.iret (v := l3) hx hb hr (fun t ht hW => ⟨⟨l3, (), rfl, hw, by rw [ht]; exact hP, va_K.moved hW.alike hK, hD⟩, hS.F ht⟩) hS.2.2 (qaa qdP 14 rfl)))
    · have hw := hw.2 c1
      refine lv_iload_n hx hb (qaa qev 8 rfl) rfl (lv_at hl 3 rfl) ?_
      refine lv_iload_n hx hb (qaa qev 9 rfl) rfl (lv_at hl 1 rfl) ?_
      refine lv_iload hx hb (qaa qev 10 rfl) (lv_at hl 4 rfl) ?_
      refine lv_ishr hx hb (qaa qev 11 rfl) ?_
      refine lv_iconst (v := 1) hx hb (qaa qev 12 rfl) (by decide) ?_
      refine lv_iand hx hb (qaa qev 13 rfl) ?_
      refine lv_aload_n hx hb (qaa qev 14 rfl) rfl (lv_at hl 0 rfl) ?_
      refine lv_iload hx hb (qaa qev 15 rfl) (lv_at hl 4 rfl) ?_
      obtain ⟨hCc, hPc, hDc, hFc⟩ := qac (ws' := (qDh a0 jaX jaF jaD ja7 jby jbf jaM jaY jap jaK jal jam jax jao ja6 jaV ja8 jae jag jaf ja0 jaC jaP jaw jaI jaZ jaH jaS jan jaU jaE jar jaL jah jaB jaa jaz jaG jab ja2 a0_s jaq jai jaO jaA jat jau jav jaj jas jaJ jak jad jay jac a0_s cyI f0_s)) hP hD hS hA [0, 1] (by decide +kernel) rfl
      refine va_calli (va_runV (As := [.int l4]) (rest := [.int ((l1 >>> (l4 &&& 31)) &&& 1), .int l3]) ⟨hx, hb, hml, hown, hts⟩ (qDg l dC dI cyB cyI cyJ cyP a0 a0_s H.size (jaX) (jaF) (jaD) (ja7) (jby) (jbf) (jaM) (jaY) (jap) (jaK) (jal) (jam) (jax) (jao) (ja6) (jaV) (ja8) (jae) (jag) (jaf) (ja0) (jaP) (jaw) (jaI) (jaZ) (jaH) (jaS) (jan) (jaU) (jaE) (jar) (jaL) (jah) (jaB) (jaa) (jaz) (jaG) (jab) (ja2) (jaq) (jai) (jaO) (jaA) (jat) (jau) (jav) (jaj) (jas) (jaJ) (jak) (jad) (jay) (jac) jaC f0_s l4 hw) (cwV 1 hts gX11_cloverBy_X11_isOwed rfl rfl rfl (by decide +kernel) ⟨nbq rfl, nbq rfl⟩) ⟨qab, va_recv (q := (RX11, TX11, 55)) hK hPc (ci := 11) (q0 := 0) rfl rfl, qae hPc hK hDc hNw⟩ rfl rfl hl.1 rfl (lv_room (nbq rfl)) (qaa qdP 0 rfl) ⟨nbq rfl, nbq rfl⟩) hS (fun q _ h => hFc q h) hFc (fun r2 u t H1 locs ht hvm hw hB hz1 hk1 hS => ?_)
      obtain ⟨hP1, hK1, hD1⟩ := hB
      rw [ht] at hP1
      obtain ⟨hP, hD⟩ := qah (wr := []) (w1 := (qDh a0 jaX jaF jaD ja7 jby jbf jaM jaY jap jaK jal jam jax jao ja6 jaV ja8 jae jag jaf ja0 jaC jaP jaw jaI jaZ jaH jaS jan jaU jaE jar jaL jah jaB jaa jaz jaG jab ja2 a0_s jaq jai jaO jaA jat jau jav jaj jas jaJ jak jad jay jac a0_s cyI f0_s)) (wn := (qDh a0 jaX jaF jaD ja7 jby jbf jaM jaY jap jaK jal jam jax jao ja6 jaV ja8 jae jag jaf ja0 jaC jaP jaw jaI jaZ jaH jaS jan jaU jaE jar jaL jah jaB jaa jaz jaG jab ja2 a0_s jaq jai jaO jaA jat jau jav jaj jas jaJ jak jad jay jac a0_s cyI f0_s)) hP hD [0, 1] [] hCc rfl (by decide +kernel) (by decide +kernel) rfl hk1 hFc hP1 hD1
      generalize H1 = H at hP hS ⊢
      refine lv_iload_n hx hb (qaa qdP 1 rfl) rfl (lv_at hl 2 rfl) ?_
      refine lv_icmp_ge (tgt := 40) hx hb (qaa qdP 2 rfl) (by decide) (fun c3 => ?_) (fun c3 => ?_)
      · have hw := hw.1 c3
        refine lv_iload_n hx hb (qaa qdP 7 rfl) rfl (lv_at hl 2 rfl) ?_
        exact qSD dC dI cyB cyI cyJ cyP a0 a0_s jaX jaF jaD ja7 jby jbf jaM jaY jap jaK jal jam jax jao ja6 jaV ja8 jae jag jaf ja0 jaP jaw jaI jaZ jaH jaS jan jaU jaE jar jaL jah jaB jaa jaz jaG jab ja2 jaq jai jaO jaA jat jau jav jaj jas jaJ jak jad jay jac jaC f0_s Q (qsS jaC f0_s Q n) ih C0 _ _ _ l1 l2 l4 l3 ((l1 >>> (l4 &&& 31)) &&& 1) l2 hP hD hS (lv_sub hl [0, 1, 2, 4] rfl) hw
      · have hw := hw.2 c3
        refine lv_aload_n hx hb (qaa qdP 3 rfl) rfl (lv_at hl 0 rfl) ?_
        refine lv_iload hx hb (qaa qdP 4 rfl) (lv_at hl 4 rfl) ?_
        obtain ⟨hCc, hPc, hDc, hFc⟩ := qac (ws' := (qDh a0 jaX jaF jaD ja7 jby jbf jaM jaY jap jaK jal jam jax jao ja6 jaV ja8 jae jag jaf ja0 jaC jaP jaw jaI jaZ jaH jaS jan jaU jaE jar jaL jah jaB jaa jaz jaG jab ja2 a0_s jaq jai jaO jaA jat jau jav jaj jas jaJ jak jad jay jac a0_s cyI f0_s)) hP hD hS hA [0, 1] (by decide +kernel) rfl
        refine va_calli (va_runV (As := [.int l4]) (rest := [.int ((l1 >>> (l4 &&& 31)) &&& 1), .int l3]) ⟨hx, hb, hml, hown, hts⟩ (qDg l dC dI cyB cyI cyJ cyP a0 a0_s H.size (jaX) (jaF) (jaD) (ja7) (jby) (jbf) (jaM) (jaY) (jap) (jaK) (jal) (jam) (jax) (jao) (ja6) (jaV) (ja8) (jae) (jag) (jaf) (ja0) (jaP) (jaw) (jaI) (jaZ) (jaH) (jaS) (jan) (jaU) (jaE) (jar) (jaL) (jah) (jaB) (jaa) (jaz) (jaG) (jab) (ja2) (jaq) (jai) (jaO) (jaA) (jat) (jau) (jav) (jaj) (jas) (jaJ) (jak) (jad) (jay) (jac) jaC f0_s l4 hw) (cwV 1 hts gX11_cloverBy_X11_isOwed rfl rfl rfl (by decide +kernel) ⟨nbq rfl, nbq rfl⟩) ⟨qab, va_recv (q := (RX11, TX11, 55)) hK hPc (ci := 11) (q0 := 0) rfl rfl, qae hPc hK hDc hNw⟩ rfl rfl hl.1 rfl (lv_room (nbq rfl)) (qaa qdP 5 rfl) ⟨nbq rfl, nbq rfl⟩) hS (fun q _ h => hFc q h) hFc (fun r4 u t H1 locs ht hvm hw hB hz1 hk1 hS => ?_)
        obtain ⟨hP1, hK1, hD1⟩ := hB
        rw [ht] at hP1
        obtain ⟨hP, hD⟩ := qah (wr := []) (w1 := (qDh a0 jaX jaF jaD ja7 jby jbf jaM jaY jap jaK jal jam jax jao ja6 jaV ja8 jae jag jaf ja0 jaC jaP jaw jaI jaZ jaH jaS jan jaU jaE jar jaL jah jaB jaa jaz jaG jab ja2 a0_s jaq jai jaO jaA jat jau jav jaj jas jaJ jak jad jay jac a0_s cyI f0_s)) (wn := (qDh a0 jaX jaF jaD ja7 jby jbf jaM jaY jap jaK jal jam jax jao ja6 jaV ja8 jae jag jaf ja0 jaC jaP jaw jaI jaZ jaH jaS jan jaU jaE jar jaL jah jaB jaa jaz jaG jab ja2 a0_s jaq jai jaO jaA jat jau jav jaj jas jaJ jak jad jay jac a0_s cyI f0_s)) hP hD [0, 1] [] hCc rfl (by decide +kernel) (by decide +kernel) rfl hk1 hFc hP1 hD1
        generalize H1 = H at hP hS ⊢
        refine lv_goto (tgt := 41) hx hb (qaa qdP 6 rfl) (by decide) ?_
        exact qSD dC dI cyB cyI cyJ cyP a0 a0_s jaX jaF jaD ja7 jby jbf jaM jaY jap jaK jal jam jax jao ja6 jaV ja8 jae jag jaf ja0 jaP jaw jaI jaZ jaH jaS jan jaU jaE jar jaL jah jaB jaa jaz jaG jab ja2 jaq jai jaO jaA jat jau jav jaj jas jaJ jak jad jay jac jaC f0_s Q (qsS jaC f0_s Q n) ih C0 _ _ _ l1 l2 l4 l3 ((l1 >>> (l4 &&& 31)) &&& 1) r4 hP hD hS (lv_sub hl [0, 1, 2, 4] rfl) hw
set_option maxHeartbeats 4000000 in
set_option maxRecDepth 100000 in
theorem qaxF (l : Launch) (dC : Nat → ClassId) (dI : Nat → Nat → Nat) (cyB cyI cyJ cyP : ClassId) (a0 a0_s sz : Nat) (jaX jaF jaD ja7 jby jbf jaM jaY jap jaK jal jam jax jao ja6 jaV ja8 jae jag jaf ja0 jaP jaw jaI jaZ jaH jaS jan jaU jaE jar jaL jah jaB jaa jaz jaG jab ja2 jaq jai jaO jaA jat jau jav jaj jas jaJ jak jad jay jac : Value) (jaC : Int32) (f0_s : NI) (p1 p2 : Int32) {Q : Int32 → Prop} (hw : qHO jaC f0_s p1 p2 Q) : Met l yX11_cloverBy wsX11_cloverBy ({ frames := 1, cells := 0, slots := 0, locals := 23 }) (va_Pc [.ref a0, .int p1, .int p2] (cPc (dC, dI) (kT cyB cyI cyJ cyP) (qDh a0 jaX jaF jaD ja7 jby jbf jaM jaY jap jaK jal jam jax jao ja6 jaV ja8 jae jag jaf ja0 jaC jaP jaw jaI jaZ jaH jaS jan jaU jaE jar jaL jah jaB jaa jaz jaG jab ja2 a0_s jaq jai jaO jaA jat jau jav jaj jas jaJ jak jad jay jac a0_s cyI f0_s) sz)) (va_Qi (fun (r : Int32) (_ : Unit) => Q r ) (cB (dC, dI) (kT cyB cyI cyJ cyP) (va_A (qDh a0 jaX jaF jaD ja7 jby jbf jaM jaY jap jaK jal jam jax jao ja6 jaV ja8 jae jag jaf ja0 jaC jaP jaw jaI jaZ jaH jaS jan jaU jaE jar jaL jah jaB jaa jaz jaG jab ja2 a0_s jaq jai jaO jaA jat jau jav jaj jas jaJ jak jad jay jac a0_s cyI f0_s) sz) (fun u : Unit => ((qDh a0 jaX jaF jaD ja7 jby jbf jaM jaY jap jaK jal jam jax jao ja6 jaV ja8 jae jag jaf ja0 jaC jaP jaw jaI jaZ jaH jaS jan jaU jaE jar jaL jah jaB jaa jaz jaG jab ja2 a0_s jaq jai jaO jaA jat jau jav jaj jas jaJ jak jad jay jac a0_s cyI f0_s) : va_W))) (va_A (qDh a0 jaX jaF jaD ja7 jby jbf jaM jaY jap jaK jal jam jax jao ja6 jaV ja8 jae jag jaf ja0 jaC jaP jaw jaI jaZ jaH jaS jan jaU jaE jar jaL jah jaB jaa jaz jaG jab ja2 a0_s jaq jai jaO jaA jat jau jav jaj jas jaJ jak jad jay jac a0_s cyI f0_s) sz)) 0 0 (va_A (qDh a0 jaX jaF jaD ja7 jby jbf jaM jaY jap jaK jal jam jax jao ja6 jaV ja8 jae jag jaf ja0 jaC jaP jaw jaI jaZ jaH jaS jan jaU jaE jar jaL jah jaB jaa jaz jaG jab ja2 a0_s jaq jai jaO jaA jat jau jav jaj jas jaJ jak jad jay jac a0_s cyI f0_s) sz) := by
  refine Met.ofW (cc := cX11_cloverBy) (maxL := 5) (ret := (some .int)) (by decide) rfl ?_
  intro p e s m args below meth c s₁ B hml hv
  obtain ⟨rfl, hsz, hP, hK, hD0, hNw⟩ := hv
  have hx := B.exec
  have hb := B.bytes
  have hr := B.returns
  have hts := atoms_spec (ws := wsX11_cloverBy) B.pre
  have hown : s.vm.findClass RX11 = some m.cls := findClass_of_methodNamed B.named
  have hlocks := B.notSynchronized
  subst hsz
  have hD := hD0.self (sz := s.heap.size)
  generalize hAe : va_A (qDh a0 jaX jaF jaD ja7 jby jbf jaM jaY jap jaK jal jam jax jao ja6 jaV ja8 jae jag jaf ja0 jaC jaP jaw jaI jaZ jaH jaS jan jaU jaE jar jaL jah jaB jaa jaz jaG jab ja2 a0_s jaq jai jaO jaA jat jau jav jaj jas jaJ jak jad jay jac a0_s cyI f0_s) s.heap.size = A at hD ⊢
  have hA : ∀ q : Nat, s.heap.size ≤ q → A q := fun q h => by rw [← hAe]; exact Or.inr h
  have hS : va_S A s.heap s.heap [] := va_S.rf
  have hP : va_P (dC, dI) vwCl (qDh a0 jaX jaF jaD ja7 jby jbf jaM jaY jap jaK jal jam jax jao ja6 jaV ja8 jae jag jaf ja0 jaC jaP jaw jaI jaZ jaH jaS jan jaU jaE jar jaL jah jaB jaa jaz jaG jab ja2 a0_s jaq jai jaO jaA jat jau jav jaj jas jaJ jak jad jay jac a0_s cyI f0_s) s.heap := hP
  have hl := lv_entry ([.ref a0, .int p1, .int p2]) (n := 5) (nbq rfl)
  rw [lg_entry_eq]
  generalize (lg_sl ([.ref a0, .int p1, .int p2]) ++ List.replicate (5 - (lg_sl ([.ref a0, .int p1, .int p2])).length) Slot.unset).toArray = ls at hl ⊢
  have hl : lv_has ls 5 [(0, .ref a0), (1, .int p1), (2, .int p2)] := hl
  have C0 : cfx p s m _ meth c cX11_cloverBy (some .int) wsX11_cloverBy RX11 5 A (dC, dI) (kT cyB cyI cyJ cyP) := ⟨hx, hb, hr, hts, hown, hlocks, hml, hA, hK, hNw⟩
  clear hAe
  obtain ⟨H, hH⟩ : ∃ H, H = s.heap := ⟨_, rfl⟩
  rw [← hH] at hP ⊢
  have hS : va_S A s.heap H [] := by rw [hH]; exact va_S.rf
  have hS := hS
  refine lv_iconst (v := 0) hx hb (qaa qev 0 rfl) (by decide) ?_
  refine lv_istore_n (lv' := [(3, .int 0), (0, .ref a0), (1, .int p1), (2, .int p2)]) hx hb (qaa qev 1 rfl) rfl hl (by decide) rfl (fun ls hl => ?_)
  refine lv_iconst (v := 0) hx hb (qaa qev 2 rfl) (by decide) ?_
  refine lv_istore (lv' := [(4, .int 0), (3, .int 0), (0, .ref a0), (1, .int p1), (2, .int p2)]) hx hb (qaa qev 3 rfl) hl (by decide) rfl (fun ls hl => ?_)
  obtain ⟨n9, hw⟩ := hw
  exact qaii dC dI cyB cyI cyJ cyP a0 a0_s jaX jaF jaD ja7 jby jbf jaM jaY jap jaK jal jam jax jao ja6 jaV ja8 jae jag jaf ja0 jaP jaw jaI jaZ jaH jaS jan jaU jaE jar jaL jah jaB jaa jaz jaG jab ja2 jaq jai jaO jaA jat jau jav jaj jas jaJ jak jad jay jac jaC f0_s Q C0 n9 _ _ _ p1 p2 0 0 hP hD hS (lv_sub hl [2, 3, 4, 1, 0] rfl) hw
theorem qVI : ∀ w ∈ u_ws RX11 TX11 55, w ∈ wsX11_clover := uiM qph qga (by decide +kernel)
theorem qadL : (.fieldLink RX11 169 "MarchHaresModel" "hares" "I" : Cond) ∈ wsX11_clover := qph 520 (by decide +kernel)
theorem qatf : (.fieldLink RX11 3 "MarchHaresModel" "thrown" "I" : Cond) ∈ wsX11_clover := qph 589 (by decide +kernel)
set_option maxHeartbeats 4000000 in
set_option maxRecDepth 100000 in
theorem qaqc {p : Program} {l : Launch} {e : Env} {s : State} {m : MethodId} {args : Array Value} {below : List Frame} {meth : Method} {c : Code} {A : Nat → Prop} (dC : Nat → ClassId) (dI : Nat → Nat → Nat) (cyB cyI cyJ cyP : ClassId) (a0 jaQ jaT a0_s : Nat) (jaD ja7 jby jbf jaM jaY jap jaK jal jam jax jao ja6 jaV ja8 jae jag jaf ja0 jaP jaw jaI jaZ jaH jaS jan jaU jaE jar jaL jah jaB jaa jaz jaG jab jaq jai jaO jaA jat jau jav jaj jas jaJ jak jad jay jac : Value) (jaC : Int32) (jb0 : NI) (Q : Int32 → Int32 → NI → NI → Prop) (C0 : cfx p s m args meth c cX11_clover (some .int) wsX11_clover RX11 5 A (dC, dI) (kT cyB cyI cyJ cyP)) : ∀ (n : Nat) (H : Heap) (locs : List Loc) (ls : Array Slot) (jbd : Int32) (ja9 f0_s : NI) (l1 l2 l3 l4 : Int32), va_P (dC, dI) vwCl (qy7 a0 jbd jaQ jaD ja7 jby jbf jaM jaY jap jaK jal jam jax jao ja6 jaV ja8 jae jag jaf ja0 jaC jaP jaw jaI jaZ jaH jaS jan jaU jaE jar jaL jah jaB jaa jaz jaG jab jaT a0_s jaq jai jaO jaA jat jau jav jaj jas jaJ jak jad jay jac jaQ cyI ja9 jaT cyI jb0 a0_s cyI f0_s) H → va_D A (qy7 a0 jbd jaQ jaD ja7 jby jbf jaM jaY jap jaK jal jam jax jao ja6 jaV ja8 jae jag jaf ja0 jaC jaP jaw jaI jaZ jaH jaS jan jaU jaE jar jaL jah jaB jaa jaz jaG jab jaT a0_s jaq jai jaO jaA jat jau jav jaj jas jaJ jak jad jay jac jaQ cyI ja9 jaT cyI jb0 a0_s cyI f0_s) → va_S A s.heap H locs → lv_has ls 5 [(0, .ref a0), (1, .int l1), (2, .int l2), (3, .int l3), (4, .int l4)] → qAm jaC jb0 Q n jbd ja9 f0_s l1 l2 l3 l4 → W p l e (headSpec wsX11_clover ({ frames := 2, cells := 0, slots := 0, locals := 47 })).room s m args below meth c H locs 0 0 (MQ below (va_Qi (fun (r : Int32) (u : Int32 × NI × NI) => Q r u.1 u.2.1 u.2.2) (cB (dC, dI) (kT cyB cyI cyJ cyP) A (fun u : Int32 × NI × NI => ((qy7 a0 u.1 jaQ jaD ja7 jby jbf jaM jaY jap jaK jal jam jax jao ja6 jaV ja8 jae jag jaf ja0 jaC jaP jaw jaI jaZ jaH jaS jan jaU jaE jar jaL jah jaB jaa jaz jaG jab jaT a0_s jaq jai jaO jaA jat jau jav jaj jas jaJ jak jad jay jac jaQ cyI u.2.1 jaT cyI jb0 a0_s cyI u.2.2) : va_W))) A) args s 0 0 A) (F0 m 64 ls []) := by
  obtain ⟨hx, hb, hr, hts, hown, hlocks, hml, hA, hK, hNw⟩ := id C0
  intro n
  induction n with
  | zero => intro H locs ls jbd ja9 f0_s l1 l2 l3 l4 hP hD hS hl hw; exact False.elim hw
  | succ n ih =>
    intro H locs ls jbd ja9 f0_s l1 l2 l3 l4 hP hD hS hl hw
    have hw : qHO jaC f0_s l2 l4 (fun r14 => ((r14 ≤ l3 → ((¬ ((l2 >>> (l1 &&& 31)) &&& 1) = 0 → qsf jaC f0_s l1 (fun r17 => ((l4 ≤ r17 → (Q l4 jbd ja9 f0_s)) ∧ (¬ l4 ≤ r17 → qsf jaC f0_s l1 (fun r19 => (Q r19 jbd ja9 f0_s)))))) ∧ (((l2 >>> (l1 &&& 31)) &&& 1) = 0 → (Q 0 jbd ja9 f0_s)))) ∧ (¬ r14 ≤ l3 → ∀ x20 : Int32, x20 = l4 + (-1) → (qAm jaC jb0 Q n jbd ja9 f0_s l1 l2 l3 x20)))) := hw
    refine lv_aload_n hx hb (qaa qfS 3 rfl) rfl (lv_at hl 0 rfl) ?_
    refine lv_iload_n hx hb (qaa qfS 4 rfl) rfl (lv_at hl 2 rfl) ?_
    refine lv_iload hx hb (qaa qfS 5 rfl) (lv_at hl 4 rfl) ?_
    obtain ⟨hCc, hPc, hDc, hFc⟩ := qac (ws' := (qaLb a0 jbd jaQ jaD ja7 jby jbf jaM jaY jap jaK jal jam jax jao ja6 jaV ja8 jae jag jaf ja0 jaC jaP jaw jaI jaZ jaH jaS jan jaU jaE jar jaL jah jaB jaa jaz jaG jab jaT a0_s jaq jai jaO jaA jat jau jav jaj jas jaJ jak jad jay jac a0_s cyI f0_s)) hP hD hS hA [0, 3] (by decide +kernel) rfl
    refine va_calli (va_runV (As := [.int l2, .int l4]) (rest := []) ⟨hx, hb, hml, hown, hts⟩ (qaxF l dC dI cyB cyI cyJ cyP a0 a0_s H.size (.int jbd) (.ref jaQ) (jaD) (ja7) (jby) (jbf) (jaM) (jaY) (jap) (jaK) (jal) (jam) (jax) (jao) (ja6) (jaV) (ja8) (jae) (jag) (jaf) (ja0) (jaP) (jaw) (jaI) (jaZ) (jaH) (jaS) (jan) (jaU) (jaE) (jar) (jaL) (jah) (jaB) (jaa) (jaz) (jaG) (jab) (.ref jaT) (jaq) (jai) (jaO) (jaA) (jat) (jau) (jav) (jaj) (jas) (jaJ) (jak) (jad) (jay) (jac) jaC f0_s l2 l4 hw) (cwV 2 hts gX11_clover_X11_cloverBy rfl rfl rfl (by decide +kernel) ⟨nbq rfl, nbq rfl⟩) ⟨qab, va_recv (q := (RX11, TX11, 55)) hK hPc (ci := 11) (q0 := 0) rfl rfl, qae hPc hK hDc hNw⟩ rfl rfl hl.1 rfl (lv_room (nbq rfl)) (qaa qfS 6 rfl) ⟨nbq rfl, nbq rfl⟩) hS (fun q _ h => hFc q h) hFc (fun r14 u t H1 locs ht hvm hw hB hz1 hk1 hS => ?_)
    obtain ⟨hP1, hK1, hD1⟩ := hB
    rw [ht] at hP1
    obtain ⟨hP, hD⟩ := qad (wr := (qa7U jaQ cyI ja9 jaT cyI jb0)) (w1 := (qaLb a0 jbd jaQ jaD ja7 jby jbf jaM jaY jap jaK jal jam jax jao ja6 jaV ja8 jae jag jaf ja0 jaC jaP jaw jaI jaZ jaH jaS jan jaU jaE jar jaL jah jaB jaa jaz jaG jab jaT a0_s jaq jai jaO jaA jat jau jav jaj jas jaJ jak jad jay jac a0_s cyI f0_s)) (wn := (qy7 a0 jbd jaQ jaD ja7 jby jbf jaM jaY jap jaK jal jam jax jao ja6 jaV ja8 jae jag jaf ja0 jaC jaP jaw jaI jaZ jaH jaS jan jaU jaE jar jaL jah jaB jaa jaz jaG jab jaT a0_s jaq jai jaO jaA jat jau jav jaj jas jaJ jak jad jay jac jaQ cyI ja9 jaT cyI jb0 a0_s cyI f0_s)) hP hD [0, 3] [1, 2] [2, 0, 1, 3] hCc rfl (by decide +kernel) (by decide +kernel) (by decide +kernel) rfl hk1 hFc hP1 hD1
    generalize H1 = H at hP hS ⊢
    refine lv_iload_n hx hb (qaa qfS 7 rfl) rfl (lv_at hl 3 rfl) ?_
    refine lv_icmp_le (tgt := 81) hx hb (qaa qfS 8 rfl) (by decide) (fun c15 => ?_) (fun c15 => ?_)
    · have hw := hw.1 c15
      refine lv_iload_n hx hb (qaa qfS 11 rfl) rfl (lv_at hl 2 rfl) ?_
      refine lv_iload_n hx hb (qaa qfS 12 rfl) rfl (lv_at hl 1 rfl) ?_
      refine lv_ishr hx hb (qaa qfS 13 rfl) ?_
      refine lv_iconst (v := 1) hx hb (qaa qfS 14 rfl) (by decide) ?_
      refine lv_iand hx hb (qaa qfS 15 rfl) ?_
      refine lv_if_ne (tgt := 91) hx hb (qaa qgv 0 rfl) (by decide) (fun c16 => ?_) (fun c16 => ?_)
      · have hw := hw.1 c16
        refine lv_aload_n hx hb (qaa qgv 3 rfl) rfl (lv_at hl 0 rfl) ?_
        refine lv_iload_n hx hb (qaa qgv 4 rfl) rfl (lv_at hl 1 rfl) ?_
        obtain ⟨hCc, hPc, hDc, hFc⟩ := qac (ws' := (qaLb a0 jbd jaQ jaD ja7 jby jbf jaM jaY jap jaK jal jam jax jao ja6 jaV ja8 jae jag jaf ja0 jaC jaP jaw jaI jaZ jaH jaS jan jaU jaE jar jaL jah jaB jaa jaz jaG jab jaT a0_s jaq jai jaO jaA jat jau jav jaj jas jaJ jak jad jay jac a0_s cyI f0_s)) hP hD hS hA [0, 3] (by decide +kernel) rfl
        refine va_calli (va_runV (As := [.int l1]) (rest := []) ⟨hx, hb, hml, hown, hts⟩ (qDg l dC dI cyB cyI cyJ cyP a0 a0_s H.size (.int jbd) (.ref jaQ) (jaD) (ja7) (jby) (jbf) (jaM) (jaY) (jap) (jaK) (jal) (jam) (jax) (jao) (ja6) (jaV) (ja8) (jae) (jag) (jaf) (ja0) (jaP) (jaw) (jaI) (jaZ) (jaH) (jaS) (jan) (jaU) (jaE) (jar) (jaL) (jah) (jaB) (jaa) (jaz) (jaG) (jab) (.ref jaT) (jaq) (jai) (jaO) (jaA) (jat) (jau) (jav) (jaj) (jas) (jaJ) (jak) (jad) (jay) (jac) jaC f0_s l1 hw) (cwV 1 hts gX11_clover_X11_isOwed rfl rfl rfl (by decide +kernel) ⟨nbq rfl, nbq rfl⟩) ⟨qab, va_recv (q := (RX11, TX11, 55)) hK hPc (ci := 11) (q0 := 0) rfl rfl, qae hPc hK hDc hNw⟩ rfl rfl hl.1 rfl (lv_room (nbq rfl)) (qaa qgv 5 rfl) ⟨nbq rfl, nbq rfl⟩) hS (fun q _ h => hFc q h) hFc (fun r17 u t H1 locs ht hvm hw hB hz1 hk1 hS => ?_)
        obtain ⟨hP1, hK1, hD1⟩ := hB
        rw [ht] at hP1
        obtain ⟨hP, hD⟩ := qad (wr := (qa7U jaQ cyI ja9 jaT cyI jb0)) (w1 := (qaLb a0 jbd jaQ jaD ja7 jby jbf jaM jaY jap jaK jal jam jax jao ja6 jaV ja8 jae jag jaf ja0 jaC jaP jaw jaI jaZ jaH jaS jan jaU jaE jar jaL jah jaB jaa jaz jaG jab jaT a0_s jaq jai jaO jaA jat jau jav jaj jas jaJ jak jad jay jac a0_s cyI f0_s)) (wn := (qy7 a0 jbd jaQ jaD ja7 jby jbf jaM jaY jap jaK jal jam jax jao ja6 jaV ja8 jae jag jaf ja0 jaC jaP jaw jaI jaZ jaH jaS jan jaU jaE jar jaL jah jaB jaa jaz jaG jab jaT a0_s jaq jai jaO jaA jat jau jav jaj jas jaJ jak jad jay jac jaQ cyI ja9 jaT cyI jb0 a0_s cyI f0_s)) hP hD [0, 3] [1, 2] [2, 0, 1, 3] hCc rfl (by decide +kernel) (by decide +kernel) (by decide +kernel) rfl hk1 hFc hP1 hD1
        generalize H1 = H at hP hS ⊢
        refine lv_iload hx hb (qaa qgv 6 rfl) (lv_at hl 4 rfl) ?_
        refine lv_icmp_ge (tgt := 109) hx hb (qaa qgv 7 rfl) (by decide) (fun c18 => ?_) (fun c18 => ?_)
        · have hw := hw.1 c18
          refine lv_iload hx hb (qaa qgv 12 rfl) (lv_at hl 4 rfl) ?_
          exact ((W.iret (v := l4) hx hb hr (fun t ht hW => ⟨⟨l4, (jbd, ja9, f0_s), rfl, hw, by rw [ht]; exact hP, va_K.moved hW.alike hK, hD⟩, hS.F ht⟩) hS.2.2 (qaa qgv 13 rfl)))
        · have hw := hw.2 c18
          refine lv_aload_n hx hb (qaa qgv 8 rfl) rfl (lv_at hl 0 rfl) ?_
          refine lv_iload_n hx hb (qaa qgv 9 rfl) rfl (lv_at hl 1 rfl) ?_
          obtain ⟨hCc, hPc, hDc, hFc⟩ := qac (ws' := (qaLb a0 jbd jaQ jaD ja7 jby jbf jaM jaY jap jaK jal jam jax jao ja6 jaV ja8 jae jag jaf ja0 jaC jaP jaw jaI jaZ jaH jaS jan jaU jaE jar jaL jah jaB jaa jaz jaG jab jaT a0_s jaq jai jaO jaA jat jau jav jaj jas jaJ jak jad jay jac a0_s cyI f0_s)) hP hD hS hA [0, 3] (by decide +kernel) rfl
          refine va_calli (va_runV (As := [.int l1]) (rest := []) ⟨hx, hb, hml, hown, hts⟩ (qDg l dC dI cyB cyI cyJ cyP a0 a0_s H.size (.int jbd) (.ref jaQ) (jaD) (ja7) (jby) (jbf) (jaM) (jaY) (jap) (jaK) (jal) (jam) (jax) (jao) (ja6) (jaV) (ja8) (jae) (jag) (jaf) (ja0) (jaP) (jaw) (jaI) (jaZ) (jaH) (jaS) (jan) (jaU) (jaE) (jar) (jaL) (jah) (jaB) (jaa) (jaz) (jaG) (jab) (.ref jaT) (jaq) (jai) (jaO) (jaA) (jat) (jau) (jav) (jaj) (jas) (jaJ) (jak) (jad) (jay) (jac) jaC f0_s l1 hw) (cwV 1 hts gX11_clover_X11_isOwed rfl rfl rfl (by decide +kernel) ⟨nbq rfl, nbq rfl⟩) ⟨qab, va_recv (q := (RX11, TX11, 55)) hK hPc (ci := 11) (q0 := 0) rfl rfl, qae hPc hK hDc hNw⟩ rfl rfl hl.1 rfl (lv_room (nbq rfl)) (qaa qgv 10 rfl) ⟨nbq rfl, nbq rfl⟩) hS (fun q _ h => hFc q h) hFc (fun r19 u t H1 locs ht hvm hw hB hz1 hk1 hS => ?_)
          obtain ⟨hP1, hK1, hD1⟩ := hB
          rw [ht] at hP1
          obtain ⟨hP, hD⟩ := qad (wr := (qa7U jaQ cyI ja9 jaT cyI jb0)) (w1 := (qaLb a0 jbd jaQ jaD ja7 jby jbf jaM jaY jap jaK jal jam jax jao ja6 jaV ja8 jae jag jaf ja0 jaC jaP jaw jaI jaZ jaH jaS jan jaU jaE jar jaL jah jaB jaa jaz jaG jab jaT a0_s jaq jai jaO jaA jat jau jav jaj jas jaJ jak jad jay jac a0_s cyI f0_s)) (wn := (qy7 a0 jbd jaQ jaD ja7 jby jbf jaM jaY jap jaK jal jam jax jao ja6 jaV ja8 jae jag jaf ja0 jaC jaP jaw jaI jaZ jaH jaS jan jaU jaE jar jaL jah jaB jaa jaz jaG jab jaT a0_s jaq jai jaO jaA jat jau jav jaj jas jaJ jak jad jay jac jaQ cyI ja9 jaT cyI jb0 a0_s cyI f0_s)) hP hD [0, 3] [1, 2] [2, 0, 1, 3] hCc rfl (by decide +kernel) (by decide +kernel) (by decide +kernel) rfl hk1 hFc hP1 hD1
          generalize H1 = H at hP hS ⊢
          refine lv_goto (tgt := 111) hx hb (qaa qgv 11 rfl) (by decide) ?_
          exact ((W.iret (v := r19) hx hb hr (fun t ht hW => ⟨⟨r19, (jbd, ja9, f0_s), rfl, hw, by rw [ht]; exact hP, va_K.moved hW.alike hK, hD⟩, hS.F ht⟩) hS.2.2 (qaa qgv 13 rfl)))
      · have hw := hw.2 c16
        refine lv_iconst (v := 0) hx hb (qaa qgv 1 rfl) (by decide) ?_
        exact ((W.iret (v := 0) hx hb hr (fun t ht hW => ⟨⟨0, (jbd, ja9, f0_s), rfl, hw, by rw [ht]; exact hP, va_K.moved hW.alike hK, hD⟩, hS.F ht⟩) hS.2.2 (qaa qgv 2 rfl)))
    · have hw := hw.2 c15
      obtain ⟨x20, ex20⟩ : ∃ y : Int32, y = l4 + (-1) := ⟨_, rfl⟩
      have hw := hw x20 ex20
      refine lv_iinc (v := x20) (lv' := [(4, .int x20), (0, .ref a0), (1, .int l1), (2, .int l2), (3, .int l3)]) hx hb (qaa qfS 9 rfl) hl (k := 4) rfl (by rw [ex20]; rfl) (by decide) rfl (fun ls hl => ?_)
      refine lv_goto (tgt := 64) hx hb (qaa qfS 10 rfl) (by decide) ?_
      exact ih _ _ _ jbd ja9 f0_s l1 l2 l3 x20 hP hD hS (lv_sub hl [1, 2, 3, 4, 0] rfl) hw
set_option maxHeartbeats 4000000 in
set_option maxRecDepth 100000 in
theorem qZ5 {p : Program} {l : Launch} {e : Env} {s : State} {m : MethodId} {args : Array Value} {below : List Frame} {meth : Method} {c : Code} {A : Nat → Prop} (dC : Nat → ClassId) (dI : Nat → Nat → Nat) (cyB cyI cyJ cyP : ClassId) (a0 jaQ jaT a0_s : Nat) (jaD ja7 jby jbf jaM jaY jap jaK jal jam jax jao ja6 jaV ja8 jae jag jaf ja0 jaP jaw jaI jaZ jaH jaS jan jaU jaE jar jaL jah jaB jaa jaz jaG jab jaq jai jaO jaA jat jau jav jaj jas jaJ jak jad jay jac : Value) (jaC : Int32) (jb0 : NI) (Q : Int32 → Int32 → NI → NI → Prop) (C0 : cfx p s m args meth c cX11_clover (some .int) wsX11_clover RX11 5 A (dC, dI) (kT cyB cyI cyJ cyP)) : ∀ (H : Heap) (locs : List Loc) (ls : Array Slot) (jbd : Int32) (ja9 f0_s : NI) (l1 l2 l3 s1 : Int32), va_P (dC, dI) vwCl (qy7 a0 jbd jaQ jaD ja7 jby jbf jaM jaY jap jaK jal jam jax jao ja6 jaV ja8 jae jag jaf ja0 jaC jaP jaw jaI jaZ jaH jaS jan jaU jaE jar jaL jah jaB jaa jaz jaG jab jaT a0_s jaq jai jaO jaA jat jau jav jaj jas jaJ jak jad jay jac jaQ cyI ja9 jaT cyI jb0 a0_s cyI f0_s) H → va_D A (qy7 a0 jbd jaQ jaD ja7 jby jbf jaM jaY jap jaK jal jam jax jao ja6 jaV ja8 jae jag jaf ja0 jaC jaP jaw jaI jaZ jaH jaS jan jaU jaE jar jaL jah jaB jaa jaz jaG jab jaT a0_s jaq jai jaO jaA jat jau jav jaj jas jaJ jak jad jay jac jaQ cyI ja9 jaT cyI jb0 a0_s cyI f0_s) → va_S A s.heap H locs → lv_has ls 5 [(0, .ref a0), (1, .int l1), (2, .int l2), (3, .int l3)] → qL6 jaC jb0 Q jbd ja9 f0_s l1 l2 l3 s1 → W p l e (headSpec wsX11_clover ({ frames := 2, cells := 0, slots := 0, locals := 47 })).room s m args below meth c H locs 0 0 (MQ below (va_Qi (fun (r : Int32) (u : Int32 × NI × NI) => Q r u.1 u.2.1 u.2.2) (cB (dC, dI) (kT cyB cyI cyJ cyP) A (fun u : Int32 × NI × NI => ((qy7 a0 u.1 jaQ jaD ja7 jby jbf jaM jaY jap jaK jal jam jax jao ja6 jaV ja8 jae jag jaf ja0 jaC jaP jaw jaI jaZ jaH jaS jan jaU jaE jar jaL jah jaB jaa jaz jaG jab jaT a0_s jaq jai jaO jaA jat jau jav jaj jas jaJ jak jad jay jac jaQ cyI u.2.1 jaT cyI jb0 a0_s cyI u.2.2) : va_W))) A) args s 0 0 A) (F0 m 45 ls [.int s1, .ref a0]) := by
  obtain ⟨hx, hb, hr, hts, hown, hlocks, hml, hA, hK, hNw⟩ := id C0
  intro H locs ls jbd ja9 f0_s l1 l2 l3 s1 hP hD hS hl hw
  refine lv_iconst (v := 2) hx hb (qaa qdI 9 rfl) (by decide) ?_
  refine lv_iconst (v := 1) hx hb (qaa qdI 10 rfl) (by decide) ?_
  obtain ⟨hCc, hPc, hDc, hFc⟩ := qac (ws' := (qa0S a0 jbd jaQ jaD ja7 jby jbf jaM jaY jap jaK jal jam jax jao ja6 jaV ja8 jae jag jaf ja0 jaC jaP jaw jaI jaZ jaH jaS jan jaU jaE jar jaL jah jaB jaa jaz jaG jab jaT a0_s jaq jai jaO jaA jat jau jav jaj jas jaJ jak jad jay jac jaQ cyI ja9)) hP hD hS hA [0, 1] (by decide +kernel) rfl
  refine va_calli (va_runV (As := [.int s1, .int 2, .int 1]) (rest := []) ⟨hx, hb, hml, hown, hts⟩ (qkO l dC dI cyB cyI cyJ cyP a0 jaQ H.size (jaD) (ja7) (jby) (jbf) (jaM) (jaY) (jap) (jaK) (jal) (jam) (jax) (jao) (ja6) (jaV) (ja8) (jae) (jag) (jaf) (ja0) (.int jaC) (jaP) (jaw) (jaI) (jaZ) (jaH) (jaS) (jan) (jaU) (jaE) (jar) (jaL) (jah) (jaB) (jaa) (jaz) (jaG) (jab) (.ref jaT) (.ref a0_s) (jaq) (jai) (jaO) (jaA) (jat) (jau) (jav) (jaj) (jas) (jaJ) (jak) (jad) (jay) (jac) jbd ja9 s1 2 1 hw) (cwV 3 hts gX11_clover_X11_may rfl rfl rfl (by decide +kernel) ⟨nbq rfl, nbq rfl⟩) ⟨qab, va_recv (q := (RX11, TX11, 55)) hK hPc (ci := 11) (q0 := 0) rfl rfl, qae hPc hK hDc hNw⟩ rfl rfl hl.1 rfl (lv_room (nbq rfl)) (qaa qdI 11 rfl) ⟨nbq rfl, nbq rfl⟩) hS (fun q _ h => hFc q h) hFc (fun r11 u t H1 locs ht hvm hw hB hz1 hk1 hS => ?_)
  obtain ⟨x9, f10⟩ := u
  obtain ⟨hP1, hK1, hD1⟩ := hB
  rw [ht] at hP1
  obtain ⟨hP, hD⟩ := qad (wr := (qbcQ jaT cyI jb0 a0_s cyI f0_s)) (w1 := (qa0S a0 x9 jaQ jaD ja7 jby jbf jaM jaY jap jaK jal jam jax jao ja6 jaV ja8 jae jag jaf ja0 jaC jaP jaw jaI jaZ jaH jaS jan jaU jaE jar jaL jah jaB jaa jaz jaG jab jaT a0_s jaq jai jaO jaA jat jau jav jaj jas jaJ jak jad jay jac jaQ cyI f10)) (wn := (qy7 a0 x9 jaQ jaD ja7 jby jbf jaM jaY jap jaK jal jam jax jao ja6 jaV ja8 jae jag jaf ja0 jaC jaP jaw jaI jaZ jaH jaS jan jaU jaE jar jaL jah jaB jaa jaz jaG jab jaT a0_s jaq jai jaO jaA jat jau jav jaj jas jaJ jak jad jay jac jaQ cyI f10 jaT cyI jb0 a0_s cyI f0_s)) hP hD [0, 1] [2, 3] [2, 3, 0, 1] hCc rfl (by decide +kernel) (by decide +kernel) (by decide +kernel) rfl hk1 hFc hP1 hD1
  generalize H1 = H at hP hS ⊢
  refine lv_if_ne (tgt := 55) hx hb (qaa qdI 12 rfl) (by decide) (fun c12 => ?_) (fun c12 => ?_)
  · have hw := hw.1 c12
    refine lv_aload_n hx hb (qaa qdI 15 rfl) rfl (lv_at hl 0 rfl) ?_
    obtain ⟨hCc, hPc, hDc, hFc⟩ := qac (ws' := (qbcV a0 x9 jaQ jaD ja7 jby jbf jaM jaY jap jaK jal jam jax jao ja6 jaV ja8 jae jag jaf ja0 jaC jaP jaw jaI jaZ jaH jaS jan jaU jaE jar jaL jah jaB jaa jaz jaG jab jaT a0_s jaq jai jaO jaA jat jau jav jaj jas jaJ jak jad jay jac jaT cyI jb0 a0_s cyI f0_s)) hP hD hS hA [0, 2, 3] (by decide +kernel) rfl
    refine va_callv (va_runV (As := []) (rest := []) ⟨hx, hb, hml, hown, hts⟩ (qq6 l dC dI cyB cyI cyJ cyP a0 jaT a0_s H.size (.int x9) (.ref jaQ) (jaD) (ja7) (jby) (jbf) (jaM) (jaY) (jap) (jaK) (jal) (jam) (jax) (jao) (ja6) (jaV) (ja8) (jae) (jag) (jaf) (ja0) (.int jaC) (jaP) (jaw) (jaI) (jaZ) (jaH) (jaS) (jan) (jaU) (jaE) (jar) (jaL) (jah) (jaB) (jaa) (jaz) (jaG) (jab) (jaq) (jai) (jaO) (jaA) (jat) (jau) (jav) (jaj) (jas) (jaJ) (jak) (jad) (jay) (jac) jb0 f0_s hw) (cwV 0 hts gX11_clover_X11_take rfl rfl rfl (by decide +kernel) ⟨nbq rfl, nbq rfl⟩) ⟨qab, va_recv (q := (RX11, TX11, 55)) hK hPc (ci := 11) (q0 := 0) rfl rfl, qae hPc hK hDc hNw⟩ rfl rfl hl.1 rfl (lv_room (nbq rfl)) (qaa qfS 0 rfl) ⟨nbq rfl, nbq rfl⟩) hS (fun q _ h => hFc q h) hFc (fun u t H1 locs ht hvm hw hB hz1 hk1 hS => ?_)
    obtain ⟨f13, rfl⟩ : ∃ z, z = u := ⟨_, rfl⟩
    obtain ⟨hP1, hK1, hD1⟩ := hB
    rw [ht] at hP1
    obtain ⟨hP, hD⟩ := qad (wr := [(jaQ, .inl (cyI, 2, .inl f10))]) (w1 := (qbcV a0 x9 jaQ jaD ja7 jby jbf jaM jaY jap jaK jal jam jax jao ja6 jaV ja8 jae jag jaf ja0 jaC jaP jaw jaI jaZ jaH jaS jan jaU jaE jar jaL jah jaB jaa jaz jaG jab jaT a0_s jaq jai jaO jaA jat jau jav jaj jas jaJ jak jad jay jac jaT cyI jb0 a0_s cyI f13)) (wn := (qy7 a0 x9 jaQ jaD ja7 jby jbf jaM jaY jap jaK jal jam jax jao ja6 jaV ja8 jae jag jaf ja0 jaC jaP jaw jaI jaZ jaH jaS jan jaU jaE jar jaL jah jaB jaa jaz jaG jab jaT a0_s jaq jai jaO jaA jat jau jav jaj jas jaJ jak jad jay jac jaQ cyI f10 jaT cyI jb0 a0_s cyI f13)) hP hD [0, 2, 3] [1] [1, 0, 2, 3] hCc rfl (by decide +kernel) (by decide +kernel) (by decide +kernel) rfl hk1 hFc hP1 hD1
    generalize H1 = H at hP hS ⊢
    refine lv_sipush (v := 495) hx hb (qaa qfS 1 rfl) (by decide) ?_
    refine lv_istore (lv' := [(4, .int 495), (0, .ref a0), (1, .int l1), (2, .int l2), (3, .int l3)]) hx hb (qaa qfS 2 rfl) hl (by decide) rfl (fun ls hl => ?_)
    obtain ⟨n9, hw⟩ := hw
    exact qaqc dC dI cyB cyI cyJ cyP a0 jaQ jaT a0_s jaD ja7 jby jbf jaM jaY jap jaK jal jam jax jao ja6 jaV ja8 jae jag jaf ja0 jaP jaw jaI jaZ jaH jaS jan jaU jaE jar jaL jah jaB jaa jaz jaG jab jaq jai jaO jaA jat jau jav jaj jas jaJ jak jad jay jac jaC jb0 Q C0 n9 _ _ _ x9 f10 f13 l1 l2 l3 495 hP hD hS (lv_sub hl [1, 2, 3, 4, 0] rfl) hw
  · have hw := hw.2 c12
    refine lv_iconst (v := 0) hx hb (qaa qdI 13 rfl) (by decide) ?_
    exact ((W.iret (v := 0) hx hb hr (fun t ht hW => ⟨⟨0, (x9, f10, f0_s), rfl, hw, by rw [ht]; exact hP, va_K.moved hW.alike hK, hD⟩, hS.F ht⟩) hS.2.2 (qaa qdI 14 rfl)))
set_option maxHeartbeats 4000000 in
set_option maxRecDepth 100000 in
theorem qMN {p : Program} {l : Launch} {e : Env} {s : State} {m : MethodId} {args : Array Value} {below : List Frame} {meth : Method} {c : Code} {A : Nat → Prop} (dC : Nat → ClassId) (dI : Nat → Nat → Nat) (cyB cyI cyJ cyP : ClassId) (a0 jaQ jaT a0_s : Nat) (jaD ja7 jby jbf jaM jaY jap jaK jal jam jax jao ja6 jaV ja8 jae jag jaf ja0 jaP jaw jaI jaZ jaH jaS jan jaU jaE jar jaL jah jaB jaa jaz jaG jab jaq jai jaO jaA jat jau jav jaj jas jaJ jak jad jay jac : Value) (jaC : Int32) (jb0 : NI) (Q : Int32 → Int32 → NI → NI → Prop) (C0 : cfx p s m args meth c cX11_clover (some .int) wsX11_clover RX11 5 A (dC, dI) (kT cyB cyI cyJ cyP)) : ∀ (H : Heap) (locs : List Loc) (ls : Array Slot) (jbd : Int32) (ja9 f0_s : NI) (l1 l2 l3 : Int32), va_P (dC, dI) vwCl (qy7 a0 jbd jaQ jaD ja7 jby jbf jaM jaY jap jaK jal jam jax jao ja6 jaV ja8 jae jag jaf ja0 jaC jaP jaw jaI jaZ jaH jaS jan jaU jaE jar jaL jah jaB jaa jaz jaG jab jaT a0_s jaq jai jaO jaA jat jau jav jaj jas jaJ jak jad jay jac jaQ cyI ja9 jaT cyI jb0 a0_s cyI f0_s) H → va_D A (qy7 a0 jbd jaQ jaD ja7 jby jbf jaM jaY jap jaK jal jam jax jao ja6 jaV ja8 jae jag jaf ja0 jaC jaP jaw jaI jaZ jaH jaS jan jaU jaE jar jaL jah jaB jaa jaz jaG jab jaT a0_s jaq jai jaO jaA jat jau jav jaj jas jaJ jak jad jay jac jaQ cyI ja9 jaT cyI jb0 a0_s cyI f0_s) → va_S A s.heap H locs → lv_has ls 5 [(0, .ref a0), (1, .int l1), (2, .int l2), (3, .int l3)] → qE9 jaC jb0 Q jbd ja9 f0_s l1 l2 l3 → W p l e (headSpec wsX11_clover ({ frames := 2, cells := 0, slots := 0, locals := 47 })).room s m args below meth c H locs 0 0 (MQ below (va_Qi (fun (r : Int32) (u : Int32 × NI × NI) => Q r u.1 u.2.1 u.2.2) (cB (dC, dI) (kT cyB cyI cyJ cyP) A (fun u : Int32 × NI × NI => ((qy7 a0 u.1 jaQ jaD ja7 jby jbf jaM jaY jap jaK jal jam jax jao ja6 jaV ja8 jae jag jaf ja0 jaC jaP jaw jaI jaZ jaH jaS jan jaU jaE jar jaL jah jaB jaa jaz jaG jab jaT a0_s jaq jai jaO jaA jat jau jav jaj jas jaJ jak jad jay jac jaQ cyI u.2.1 jaT cyI jb0 a0_s cyI u.2.2) : va_W))) A) args s 0 0 A) (F0 m 44 ls [.ref a0]) := by
  obtain ⟨hx, hb, hr, hts, hown, hlocks, hml, hA, hK, hNw⟩ := id C0
  intro H locs ls jbd ja9 f0_s l1 l2 l3 hP hD hS hl hw
  refine lv_iconst (v := 0) hx hb (qaa qdI 8 rfl) (by decide) ?_
  exact qZ5 dC dI cyB cyI cyJ cyP a0 jaQ jaT a0_s jaD ja7 jby jbf jaM jaY jap jaK jal jam jax jao ja6 jaV ja8 jae jag jaf ja0 jaP jaw jaI jaZ jaH jaS jan jaU jaE jar jaL jah jaB jaa jaz jaG jab jaq jai jaO jaA jat jau jav jaj jas jaJ jak jad jay jac jaC jb0 Q C0 _ _ _ jbd ja9 f0_s l1 l2 l3 0 hP hD hS (lv_sub hl [0, 1, 2, 3] rfl) hw
set_option maxHeartbeats 4000000 in
set_option maxRecDepth 100000 in
theorem qaP8 (l : Launch) (dC : Nat → ClassId) (dI : Nat → Nat → Nat) (cyB cyI cyJ cyP : ClassId) (a0 jaQ jaT a0_s sz : Nat) (jaD ja7 jby jbf jaM jaY jap jaK jal jam jax jao ja6 jaV ja8 jae jag jaf ja0 jaP jaw jaI jaZ jaH jaS jan jaU jaE jar jaL jah jaB jaa jaz jaG jab jaq jai jaO jaA jat jau jav jaj jas jaJ jak jad jay jac : Value) (jaC : Int32) (jb0 : NI) (jbd : Int32) (ja9 f0_s : NI) (p1 p2 p3 : Int32) {Q : Int32 → Int32 → NI → NI → Prop} (hw : qXS jaC jb0 jbd ja9 f0_s p1 p2 p3 Q) : Met l yX11_clover wsX11_clover ({ frames := 2, cells := 0, slots := 0, locals := 47 }) (va_Pc [.ref a0, .int p1, .int p2, .int p3] (cPc (dC, dI) (kT cyB cyI cyJ cyP) (qy7 a0 jbd jaQ jaD ja7 jby jbf jaM jaY jap jaK jal jam jax jao ja6 jaV ja8 jae jag jaf ja0 jaC jaP jaw jaI jaZ jaH jaS jan jaU jaE jar jaL jah jaB jaa jaz jaG jab jaT a0_s jaq jai jaO jaA jat jau jav jaj jas jaJ jak jad jay jac jaQ cyI ja9 jaT cyI jb0 a0_s cyI f0_s) sz)) (va_Qi (fun (r : Int32) (u : Int32 × NI × NI) => Q r u.1 u.2.1 u.2.2) (cB (dC, dI) (kT cyB cyI cyJ cyP) (va_A (qy7 a0 jbd jaQ jaD ja7 jby jbf jaM jaY jap jaK jal jam jax jao ja6 jaV ja8 jae jag jaf ja0 jaC jaP jaw jaI jaZ jaH jaS jan jaU jaE jar jaL jah jaB jaa jaz jaG jab jaT a0_s jaq jai jaO jaA jat jau jav jaj jas jaJ jak jad jay jac jaQ cyI ja9 jaT cyI jb0 a0_s cyI f0_s) sz) (fun u : Int32 × NI × NI => ((qy7 a0 u.1 jaQ jaD ja7 jby jbf jaM jaY jap jaK jal jam jax jao ja6 jaV ja8 jae jag jaf ja0 jaC jaP jaw jaI jaZ jaH jaS jan jaU jaE jar jaL jah jaB jaa jaz jaG jab jaT a0_s jaq jai jaO jaA jat jau jav jaj jas jaJ jak jad jay jac jaQ cyI u.2.1 jaT cyI jb0 a0_s cyI u.2.2) : va_W))) (va_A (qy7 a0 jbd jaQ jaD ja7 jby jbf jaM jaY jap jaK jal jam jax jao ja6 jaV ja8 jae jag jaf ja0 jaC jaP jaw jaI jaZ jaH jaS jan jaU jaE jar jaL jah jaB jaa jaz jaG jab jaT a0_s jaq jai jaO jaA jat jau jav jaj jas jaJ jak jad jay jac jaQ cyI ja9 jaT cyI jb0 a0_s cyI f0_s) sz)) 0 0 (va_A (qy7 a0 jbd jaQ jaD ja7 jby jbf jaM jaY jap jaK jal jam jax jao ja6 jaV ja8 jae jag jaf ja0 jaC jaP jaw jaI jaZ jaH jaS jan jaU jaE jar jaL jah jaB jaa jaz jaG jab jaT a0_s jaq jai jaO jaA jat jau jav jaj jas jaJ jak jad jay jac jaQ cyI ja9 jaT cyI jb0 a0_s cyI f0_s) sz) := by
  refine Met.ofW (cc := cX11_clover) (maxL := 5) (ret := (some .int)) (by decide) rfl ?_
  intro p e s m args below meth c s₁ B hml hv
  obtain ⟨rfl, hsz, hP, hK, hD0, hNw⟩ := hv
  have hx := B.exec
  have hb := B.bytes
  have hr := B.returns
  have hts := atoms_spec (ws := wsX11_clover) B.pre
  have hown : s.vm.findClass RX11 = some m.cls := findClass_of_methodNamed B.named
  have hlocks := B.notSynchronized
  subst hsz
  have hD := hD0.self (sz := s.heap.size)
  generalize hAe : va_A (qy7 a0 jbd jaQ jaD ja7 jby jbf jaM jaY jap jaK jal jam jax jao ja6 jaV ja8 jae jag jaf ja0 jaC jaP jaw jaI jaZ jaH jaS jan jaU jaE jar jaL jah jaB jaa jaz jaG jab jaT a0_s jaq jai jaO jaA jat jau jav jaj jas jaJ jak jad jay jac jaQ cyI ja9 jaT cyI jb0 a0_s cyI f0_s) s.heap.size = A at hD ⊢
  have hA : ∀ q : Nat, s.heap.size ≤ q → A q := fun q h => by rw [← hAe]; exact Or.inr h
  have hS : va_S A s.heap s.heap [] := va_S.rf
  have hP : va_P (dC, dI) vwCl (qy7 a0 jbd jaQ jaD ja7 jby jbf jaM jaY jap jaK jal jam jax jao ja6 jaV ja8 jae jag jaf ja0 jaC jaP jaw jaI jaZ jaH jaS jan jaU jaE jar jaL jah jaB jaa jaz jaG jab jaT a0_s jaq jai jaO jaA jat jau jav jaj jas jaJ jak jad jay jac jaQ cyI ja9 jaT cyI jb0 a0_s cyI f0_s) s.heap := hP
  have hl := lv_entry ([.ref a0, .int p1, .int p2, .int p3]) (n := 5) (nbq rfl)
  rw [lg_entry_eq]
  generalize (lg_sl ([.ref a0, .int p1, .int p2, .int p3]) ++ List.replicate (5 - (lg_sl ([.ref a0, .int p1, .int p2, .int p3])).length) Slot.unset).toArray = ls at hl ⊢
  have hl : lv_has ls 5 [(0, .ref a0), (1, .int p1), (2, .int p2), (3, .int p3)] := hl
  have C0 : cfx p s m _ meth c cX11_clover (some .int) wsX11_clover RX11 5 A (dC, dI) (kT cyB cyI cyJ cyP) := ⟨hx, hb, hr, hts, hown, hlocks, hml, hA, hK, hNw⟩
  clear hAe
  obtain ⟨H, hH⟩ : ∃ H, H = s.heap := ⟨_, rfl⟩
  rw [← hH] at hP ⊢
  have hS : va_S A s.heap H [] := by rw [hH]; exact va_S.rf
  have hS := hS
  refine lv_aload_n hx hb (qaa qgN 0 rfl) rfl (lv_at hl 0 rfl) ?_
  refine lv_iconst (v := 0) hx hb (qaa qgN 1 rfl) (by decide) ?_
  refine va_put (D := (dC, dI)) (ci := 11) (v := .int 0) (ty := .int) (C := RX11) (T := TX11) (N := 55) hx hb hts qVI tyX11 tyX11_ok nmX11 hown hK hP hD hS 0 rfl rfl 0 (by decide) (hts _ qatf) (fun _ h9 => h9) rfl (by decide +kernel) rfl rfl (nbq rfl) (qaa qgN 2 rfl) (fun H locs hP hD hS => ?_)
  have hP : va_P (dC, dI) vwCl (qy7 a0 0 jaQ jaD ja7 jby jbf jaM jaY jap jaK jal jam jax jao ja6 jaV ja8 jae jag jaf ja0 jaC jaP jaw jaI jaZ jaH jaS jan jaU jaE jar jaL jah jaB jaa jaz jaG jab jaT a0_s jaq jai jaO jaA jat jau jav jaj jas jaJ jak jad jay jac jaQ cyI ja9 jaT cyI jb0 a0_s cyI f0_s) H := hP
  have hD : va_D A (qy7 a0 0 jaQ jaD ja7 jby jbf jaM jaY jap jaK jal jam jax jao ja6 jaV ja8 jae jag jaf ja0 jaC jaP jaw jaI jaZ jaH jaS jan jaU jaE jar jaL jah jaB jaa jaz jaG jab jaT a0_s jaq jai jaO jaA jat jau jav jaj jas jaJ jak jad jay jac jaQ cyI ja9 jaT cyI jb0 a0_s cyI f0_s) := hD
  refine lv_aload_n hx hb (qaa qgN 3 rfl) rfl (lv_at hl 0 rfl) ?_
  refine lv_iload_n hx hb (qaa qgN 4 rfl) rfl (lv_at hl 1 rfl) ?_
  refine lv_iconst (v := 1) hx hb (qaa qgN 5 rfl) (by decide) ?_
  obtain ⟨hCc, hPc, hDc, hFc⟩ := qac (ws' := (qa0S a0 0 jaQ jaD ja7 jby jbf jaM jaY jap jaK jal jam jax jao ja6 jaV ja8 jae jag jaf ja0 jaC jaP jaw jaI jaZ jaH jaS jan jaU jaE jar jaL jah jaB jaa jaz jaG jab jaT a0_s jaq jai jaO jaA jat jau jav jaj jas jaJ jak jad jay jac jaQ cyI ja9)) hP hD hS hA [0, 1] (by decide +kernel) rfl
  refine va_calli (va_runV (As := [.int p1, .int 1]) (rest := []) ⟨hx, hb, hml, hown, hts⟩ (qtz l dC dI cyB cyI cyJ cyP a0 jaQ H.size (jaD) (ja7) (jby) (jbf) (jaM) (jaY) (jap) (jaK) (jal) (jam) (jax) (jao) (ja6) (jaV) (ja8) (jae) (jag) (jaf) (ja0) (jaP) (jaw) (jaI) (jaZ) (jaH) (jaS) (jan) (jaU) (jaE) (jar) (jaL) (jah) (jaB) (jaa) (jaz) (jaG) (jab) (.ref jaT) (.ref a0_s) (jaq) (jai) (jaO) (jaA) (jat) (jau) (jav) (jaj) (jas) (jaJ) (jak) (jad) (jay) (jac) jaC 0 ja9 p1 1 hw) (cwV 2 hts gX11_clover_X11_isHare rfl rfl rfl (by decide +kernel) ⟨nbq rfl, nbq rfl⟩) ⟨qab, va_recv (q := (RX11, TX11, 55)) hK hPc (ci := 11) (q0 := 0) rfl rfl, qae hPc hK hDc hNw⟩ rfl rfl hl.1 rfl (lv_room (nbq rfl)) (qaa qgN 6 rfl) ⟨nbq rfl, nbq rfl⟩) hS (fun q _ h => hFc q h) hFc (fun r3 u t H1 locs ht hvm hw hB hz1 hk1 hS => ?_)
  obtain ⟨x1, f2⟩ := u
  obtain ⟨hP1, hK1, hD1⟩ := hB
  rw [ht] at hP1
  obtain ⟨hP, hD⟩ := qad (wr := (qbcQ jaT cyI jb0 a0_s cyI f0_s)) (w1 := (qa0S a0 x1 jaQ jaD ja7 jby jbf jaM jaY jap jaK jal jam jax jao ja6 jaV ja8 jae jag jaf ja0 jaC jaP jaw jaI jaZ jaH jaS jan jaU jaE jar jaL jah jaB jaa jaz jaG jab jaT a0_s jaq jai jaO jaA jat jau jav jaj jas jaJ jak jad jay jac jaQ cyI f2)) (wn := (qy7 a0 x1 jaQ jaD ja7 jby jbf jaM jaY jap jaK jal jam jax jao ja6 jaV ja8 jae jag jaf ja0 jaC jaP jaw jaI jaZ jaH jaS jan jaU jaE jar jaL jah jaB jaa jaz jaG jab jaT a0_s jaq jai jaO jaA jat jau jav jaj jas jaJ jak jad jay jac jaQ cyI f2 jaT cyI jb0 a0_s cyI f0_s)) hP hD [0, 1] [2, 3] [2, 3, 0, 1] hCc rfl (by decide +kernel) (by decide +kernel) (by decide +kernel) rfl hk1 hFc hP1 hD1
  generalize H1 = H at hP hS ⊢
  refine lv_if_eq (tgt := 53) hx hb (qaa qgN 7 rfl) (by decide) (fun c4 => ?_) (fun c4 => ?_)
  · have hw := hw.1 c4
    refine lv_iconst (v := 0) hx hb (qaa qdI 13 rfl) (by decide) ?_
    exact ((W.iret (v := 0) hx hb hr (fun t ht hW => ⟨⟨0, (x1, f2, f0_s), rfl, hw, by rw [ht]; exact hP, va_K.moved hW.alike hK, hD⟩, hS.F ht⟩) hS.2.2 (qaa qdI 14 rfl)))
  · have hw := hw.2 c4
    refine lv_aload_n hx hb (qaa qgN 8 rfl) rfl (lv_at hl 0 rfl) ?_
    refine lv_iload_n hx hb (qaa qgN 9 rfl) rfl (lv_at hl 2 rfl) ?_
    refine lv_if_lt (tgt := 44) hx hb (qaa qgN 10 rfl) (by decide) (fun c5 => ?_) (fun c5 => ?_)
    · have hw := hw.1 c5
      exact qMN dC dI cyB cyI cyJ cyP a0 jaQ jaT a0_s jaD ja7 jby jbf jaM jaY jap jaK jal jam jax jao ja6 jaV ja8 jae jag jaf ja0 jaP jaw jaI jaZ jaH jaS jan jaU jaE jar jaL jah jaB jaa jaz jaG jab jaq jai jaO jaA jat jau jav jaj jas jaJ jak jad jay jac jaC jb0 Q C0 _ _ _ x1 f2 f0_s p1 p2 p3 hP hD hS (lv_sub hl [0, 1, 2, 3] rfl) hw
    · have hw := hw.2 c5
      refine lv_iload_n hx hb (qaa qgN 11 rfl) rfl (lv_at hl 2 rfl) ?_
      refine lv_iconst (v := 1) hx hb (qaa qgN 12 rfl) (by decide) ?_
      refine lv_aload_n hx hb (qaa qgN 13 rfl) rfl (lv_at hl 0 rfl) ?_
      refine va_get (D := (dC, dI)) (ci := 11) (v := .int jaC) (C := RX11) (T := TX11) (N := 55) hx hb hts qVI hown hK hP 0 rfl rfl 21 (by decide) (hts _ qadL) (fun _ h9 => h9) rfl (qaa qgN 14 rfl) ?_
      refine lv_ishl hx hb (qaa qgN 15 rfl) ?_
      refine lv_icmp_ge (tgt := 44) hx hb (qaa qdI 0 rfl) (by decide) (fun c6 => ?_) (fun c6 => ?_)
      · have hw := hw.1 c6
        exact qMN dC dI cyB cyI cyJ cyP a0 jaQ jaT a0_s jaD ja7 jby jbf jaM jaY jap jaK jal jam jax jao ja6 jaV ja8 jae jag jaf ja0 jaP jaw jaI jaZ jaH jaS jan jaU jaE jar jaL jah jaB jaa jaz jaG jab jaq jai jaO jaA jat jau jav jaj jas jaJ jak jad jay jac jaC jb0 Q C0 _ _ _ x1 f2 f0_s p1 p2 p3 hP hD hS (lv_sub hl [0, 1, 2, 3] rfl) hw
      · have hw := hw.2 c6
        refine lv_iload_n hx hb (qaa qdI 1 rfl) rfl (lv_at hl 3 rfl) ?_
        refine lv_iconst (v := 0) hx hb (qaa qdI 2 rfl) (by decide) ?_
        refine lv_sipush (v := 999) hx hb (qaa qdI 3 rfl) (by decide) ?_
        obtain ⟨hCc, hPc, hDc, hFc⟩ := qac (ws' := []) hP hD hS hA [] (by decide +kernel) rfl
        refine va_calli (va_runS (As := [.int p3, .int 0, .int 999]) (rest := [.ref a0]) ⟨hx, hb, hml, hown, hts⟩ (qbH l dC dI cyB cyI cyJ cyP H.size p3 0 999 hw) (va_cwS 3 hts gX11_clover_X11_within rfl rfl rfl (by decide +kernel) ⟨nbq rfl, nbq rfl⟩) ⟨qab, qae hPc hK hDc hNw⟩ rfl rfl hl.1 rfl (lv_room (nbq rfl)) (qaa qdI 4 rfl) ⟨nbq rfl, nbq rfl⟩) hS (fun q _ h => hFc q h) hFc (fun r7 u t H1 locs ht hvm hw hB hz1 hk1 hS => ?_)
        obtain ⟨hP1, hK1, hD1⟩ := hB
        rw [ht] at hP1
        obtain ⟨hP, hD⟩ := qah (wr := (qy7 a0 x1 jaQ jaD ja7 jby jbf jaM jaY jap jaK jal jam jax jao ja6 jaV ja8 jae jag jaf ja0 jaC jaP jaw jaI jaZ jaH jaS jan jaU jaE jar jaL jah jaB jaa jaz jaG jab jaT a0_s jaq jai jaO jaA jat jau jav jaj jas jaJ jak jad jay jac jaQ cyI f2 jaT cyI jb0 a0_s cyI f0_s)) (w1 := []) (wn := (qy7 a0 x1 jaQ jaD ja7 jby jbf jaM jaY jap jaK jal jam jax jao ja6 jaV ja8 jae jag jaf ja0 jaC jaP jaw jaI jaZ jaH jaS jan jaU jaE jar jaL jah jaB jaa jaz jaG jab jaT a0_s jaq jai jaO jaA jat jau jav jaj jas jaJ jak jad jay jac jaQ cyI f2 jaT cyI jb0 a0_s cyI f0_s)) hP hD [] [0, 1, 2, 3] hCc rfl (by decide +kernel) (by decide +kernel) rfl hk1 hFc hP1 hD1
        generalize H1 = H at hP hS ⊢
        refine lv_if_eq (tgt := 44) hx hb (qaa qdI 5 rfl) (by decide) (fun c8 => ?_) (fun c8 => ?_)
        · have hw := hw.1 c8
          exact qMN dC dI cyB cyI cyJ cyP a0 jaQ jaT a0_s jaD ja7 jby jbf jaM jaY jap jaK jal jam jax jao ja6 jaV ja8 jae jag jaf ja0 jaP jaw jaI jaZ jaH jaS jan jaU jaE jar jaL jah jaB jaa jaz jaG jab jaq jai jaO jaA jat jau jav jaj jas jaJ jak jad jay jac jaC jb0 Q C0 _ _ _ x1 f2 f0_s p1 p2 p3 hP hD hS (lv_sub hl [0, 1, 2, 3] rfl) hw
        · have hw := hw.2 c8
          refine lv_iconst (v := 1) hx hb (qaa qdI 6 rfl) (by decide) ?_
          refine lv_goto (tgt := 45) hx hb (qaa qdI 7 rfl) (by decide) ?_
          exact qZ5 dC dI cyB cyI cyJ cyP a0 jaQ jaT a0_s jaD ja7 jby jbf jaM jaY jap jaK jal jam jax jao ja6 jaV ja8 jae jag jaf ja0 jaP jaw jaI jaZ jaH jaS jan jaU jaE jar jaL jah jaB jaa jaz jaG jab jaq jai jaO jaA jat jau jav jaj jas jaJ jak jad jay jac jaC jb0 Q C0 _ _ _ x1 f2 f0_s p1 p2 p3 1 hP hD hS (lv_sub hl [0, 1, 2, 3] rfl) hw
theorem qET : ∀ w ∈ u_ws RX11 TX11 55, w ∈ wsX11_count := uiM qQr qga (by decide +kernel)
theorem qalD : (.fieldLink RX11 111 "MarchHaresModel" "taped" "I" : Cond) ∈ wsX11_count := qQr 590 (by decide +kernel)
theorem qanO : (.fieldLink RX11 185 "MarchHaresModel" "works" "I" : Cond) ∈ wsX11_count := qQr 524 (by decide +kernel)
theorem qakH : (.fieldLink RX11 188 "MarchHaresModel" "images" "I" : Cond) ∈ wsX11_count := qQr 525 (by decide +kernel)
theorem qavP : (.fieldLink RX11 3 "MarchHaresModel" "thrown" "I" : Cond) ∈ wsX11_count := qQr 589 (by decide +kernel)
set_option maxHeartbeats 4000000 in
set_option maxRecDepth 100000 in
theorem qaTx (l : Launch) (dC : Nat → ClassId) (dI : Nat → Nat → Nat) (cyB cyI cyJ cyP : ClassId) (a0 sz : Nat) (jaF ja7 jby jbf jaM jaY jap jaK jal jam jax jao ja6 jaV ja8 jae jag jaf ja0 ja4 jaP jaw jaI jaZ jaH jaS jan jaU jaE jar jaL jah jaa jaz jaG jab ja2 z0_s jaq jai jaO jaA jat jau jav jaj jas jaJ jak jad jay : Value) (jgt jhS ji3 jbd p1 : Int32) {Q : Int32 → Int32 → Prop} (hw : qaom jgt jhS ji3 jbd p1 Q) : Met l yX11_count wsX11_count ({ frames := 0, cells := 0, slots := 0, locals := 0 }) (va_Pc [.ref a0, .int p1] (cPc (dC, dI) (kT cyB cyI cyJ cyP) (qagF a0 jbd jaF jgt ja7 jby jbf jaM jaY jap jaK jal jam jax jao ja6 jaV ja8 jae jag jaf ja0 ja4 jaP jaw jaI jaZ jaH jaS jan jaU jaE jar jaL jah jhS jaa jaz jaG jab ja2 z0_s jaq jai jaO jaA jat jau jav jaj jas jaJ jak jad jay ji3) sz)) (va_Qi (fun (r u : Int32) => Q r u) (cB (dC, dI) (kT cyB cyI cyJ cyP) (va_A (qagF a0 jbd jaF jgt ja7 jby jbf jaM jaY jap jaK jal jam jax jao ja6 jaV ja8 jae jag jaf ja0 ja4 jaP jaw jaI jaZ jaH jaS jan jaU jaE jar jaL jah jhS jaa jaz jaG jab ja2 z0_s jaq jai jaO jaA jat jau jav jaj jas jaJ jak jad jay ji3) sz) (fun u : Int32 => ((qagF a0 u jaF jgt ja7 jby jbf jaM jaY jap jaK jal jam jax jao ja6 jaV ja8 jae jag jaf ja0 ja4 jaP jaw jaI jaZ jaH jaS jan jaU jaE jar jaL jah jhS jaa jaz jaG jab ja2 z0_s jaq jai jaO jaA jat jau jav jaj jas jaJ jak jad jay ji3) : va_W))) (va_A (qagF a0 jbd jaF jgt ja7 jby jbf jaM jaY jap jaK jal jam jax jao ja6 jaV ja8 jae jag jaf ja0 ja4 jaP jaw jaI jaZ jaH jaS jan jaU jaE jar jaL jah jhS jaa jaz jaG jab ja2 z0_s jaq jai jaO jaA jat jau jav jaj jas jaJ jak jad jay ji3) sz)) 0 0 (va_A (qagF a0 jbd jaF jgt ja7 jby jbf jaM jaY jap jaK jal jam jax jao ja6 jaV ja8 jae jag jaf ja0 ja4 jaP jaw jaI jaZ jaH jaS jan jaU jaE jar jaL jah jhS jaa jaz jaG jab ja2 z0_s jaq jai jaO jaA jat jau jav jaj jas jaJ jak jad jay ji3) sz) := by
  refine Met.ofW (cc := cX11_count) (maxL := 2) (ret := (some .int)) (by decide) rfl ?_
  intro p e s m args below meth c s₁ B hml hv
  obtain ⟨rfl, hsz, hP, hK, hD0, hNw⟩ := hv
  have hx := B.exec
  have hb := B.bytes
  have hr := B.returns
  have hts := atoms_spec (ws := wsX11_count) B.pre
  have hown : s.vm.findClass RX11 = some m.cls := findClass_of_methodNamed B.named
  have hlocks := B.notSynchronized
  subst hsz
  have hD := hD0.self (sz := s.heap.size)
  generalize hAe : va_A (qagF a0 jbd jaF jgt ja7 jby jbf jaM jaY jap jaK jal jam jax jao ja6 jaV ja8 jae jag jaf ja0 ja4 jaP jaw jaI jaZ jaH jaS jan jaU jaE jar jaL jah jhS jaa jaz jaG jab ja2 z0_s jaq jai jaO jaA jat jau jav jaj jas jaJ jak jad jay ji3) s.heap.size = A at hD ⊢
  have hA : ∀ q : Nat, s.heap.size ≤ q → A q := fun q h => by rw [← hAe]; exact Or.inr h
  have hS : va_S A s.heap s.heap [] := va_S.rf
  have hP : va_P (dC, dI) vwCl (qagF a0 jbd jaF jgt ja7 jby jbf jaM jaY jap jaK jal jam jax jao ja6 jaV ja8 jae jag jaf ja0 ja4 jaP jaw jaI jaZ jaH jaS jan jaU jaE jar jaL jah jhS jaa jaz jaG jab ja2 z0_s jaq jai jaO jaA jat jau jav jaj jas jaJ jak jad jay ji3) s.heap := hP
  have hl := lv_entry ([.ref a0, .int p1]) (n := 2) (nbq rfl)
  rw [lg_entry_eq]
  generalize (lg_sl ([.ref a0, .int p1]) ++ List.replicate (2 - (lg_sl ([.ref a0, .int p1])).length) Slot.unset).toArray = ls at hl ⊢
  have hl : lv_has ls 2 [(0, .ref a0), (1, .int p1)] := hl
  have C0 : cfx p s m _ meth c cX11_count (some .int) wsX11_count RX11 2 A (dC, dI) (kT cyB cyI cyJ cyP) := ⟨hx, hb, hr, hts, hown, hlocks, hml, hA, hK, hNw⟩
  clear hAe
  obtain ⟨H, hH⟩ : ∃ H, H = s.heap := ⟨_, rfl⟩
  rw [← hH] at hP ⊢
  have hS : va_S A s.heap H [] := by rw [hH]; exact va_S.rf
  have hS := hS
  refine lv_aload_n hx hb (qaa qka 0 rfl) rfl (lv_at hl 0 rfl) ?_
  refine lv_iconst (v := 0) hx hb (qaa qka 1 rfl) (by decide) ?_
  refine va_put (D := (dC, dI)) (ci := 11) (v := .int 0) (ty := .int) (C := RX11) (T := TX11) (N := 55) hx hb hts qET tyX11 tyX11_ok nmX11 hown hK hP hD hS 0 rfl rfl 0 (by decide) (hts _ qavP) (fun _ h9 => h9) rfl (by decide +kernel) rfl rfl (nbq rfl) (qaa qka 2 rfl) (fun H locs hP hD hS => ?_)
  have hP : va_P (dC, dI) vwCl (qagF a0 0 jaF jgt ja7 jby jbf jaM jaY jap jaK jal jam jax jao ja6 jaV ja8 jae jag jaf ja0 ja4 jaP jaw jaI jaZ jaH jaS jan jaU jaE jar jaL jah jhS jaa jaz jaG jab ja2 z0_s jaq jai jaO jaA jat jau jav jaj jas jaJ jak jad jay ji3) H := hP
  have hD : va_D A (qagF a0 0 jaF jgt ja7 jby jbf jaM jaY jap jaK jal jam jax jao ja6 jaV ja8 jae jag jaf ja0 ja4 jaP jaw jaI jaZ jaH jaS jan jaU jaE jar jaL jah jhS jaa jaz jaG jab ja2 z0_s jaq jai jaO jaA jat jau jav jaj jas jaJ jak jad jay ji3) := hD
  refine lv_iload_n hx hb (qaa qka 3 rfl) rfl (lv_at hl 1 rfl) ?_
  refine lv_if_ne (tgt := 16) hx hb (qaa qka 4 rfl) (by decide) (fun c1 => ?_) (fun c1 => ?_)
  · have hw := hw.1 c1
    refine lv_iload_n hx hb (qaa qka 8 rfl) rfl (lv_at hl 1 rfl) ?_
    refine lv_iconst (v := 1) hx hb (qaa qka 9 rfl) (by decide) ?_
    refine lv_icmp_ne (tgt := 28) hx hb (qaa qka 10 rfl) (by decide) (fun c2 => ?_) (fun c2 => ?_)
    · have hw := hw.1 c2
      refine lv_iload_n hx hb (qaa qka 14 rfl) rfl (lv_at hl 1 rfl) ?_
      refine lv_iconst (v := 2) hx hb (qaa qka 15 rfl) (by decide) ?_
      refine lv_icmp_ne (tgt := 40) hx hb (qaa qrV 0 rfl) (by decide) (fun c3 => ?_) (fun c3 => ?_)
      · have hw := hw.1 c3
        refine lv_iconst (v := (-1)) hx hb (qaa qrV 4 rfl) (by decide) ?_
        exact ((W.iret (v := (-1)) hx hb hr (fun t ht hW => ⟨⟨(-1), (0), rfl, hw, by rw [ht]; exact hP, va_K.moved hW.alike hK, hD⟩, hS.F ht⟩) hS.2.2 (qaa qrV 5 rfl)))
      · have hw := hw.2 c3
        refine lv_aload_n hx hb (qaa qrV 1 rfl) rfl (lv_at hl 0 rfl) ?_
        refine va_get (D := (dC, dI)) (ci := 11) (v := .int jhS) (C := RX11) (T := TX11) (N := 55) hx hb hts qET hown hK hP 0 rfl rfl 34 (by decide) (hts _ qanO) (fun _ h9 => h9) rfl (qaa qrV 2 rfl) ?_
        refine lv_goto (tgt := 41) hx hb (qaa qrV 3 rfl) (by decide) ?_
        exact ((W.iret (v := jhS) hx hb hr (fun t ht hW => ⟨⟨jhS, (0), rfl, hw, by rw [ht]; exact hP, va_K.moved hW.alike hK, hD⟩, hS.F ht⟩) hS.2.2 (qaa qrV 5 rfl)))
    · have hw := hw.2 c2
      refine lv_aload_n hx hb (qaa qka 11 rfl) rfl (lv_at hl 0 rfl) ?_
      refine va_get (D := (dC, dI)) (ci := 11) (v := .int jgt) (C := RX11) (T := TX11) (N := 55) hx hb hts qET hown hK hP 0 rfl rfl 2 (by decide) (hts _ qalD) (fun _ h9 => h9) rfl (qaa qka 12 rfl) ?_
      refine lv_goto (tgt := 41) hx hb (qaa qka 13 rfl) (by decide) ?_
      exact ((W.iret (v := jgt) hx hb hr (fun t ht hW => ⟨⟨jgt, (0), rfl, hw, by rw [ht]; exact hP, va_K.moved hW.alike hK, hD⟩, hS.F ht⟩) hS.2.2 (qaa qrV 5 rfl)))
  · have hw := hw.2 c1
    refine lv_aload_n hx hb (qaa qka 5 rfl) rfl (lv_at hl 0 rfl) ?_
    refine va_get (D := (dC, dI)) (ci := 11) (v := .int ji3) (C := RX11) (T := TX11) (N := 55) hx hb hts qET hown hK hP 0 rfl rfl 54 (by decide) (hts _ qakH) (fun _ h9 => h9) rfl (qaa qka 6 rfl) ?_
    refine lv_goto (tgt := 41) hx hb (qaa qka 7 rfl) (by decide) ?_
    exact ((W.iret (v := ji3) hx hb hr (fun t ht hW => ⟨⟨ji3, (0), rfl, hw, by rw [ht]; exact hP, va_K.moved hW.alike hK, hD⟩, hS.F ht⟩) hS.2.2 (qaa qrV 5 rfl)))
theorem q1U : ∀ w ∈ u_ws RX11 TX11 55, w ∈ wsX11_debt := uiM qVm qga (by decide +kernel)
theorem qaKM : (.fieldLink RX11 3 "MarchHaresModel" "thrown" "I" : Cond) ∈ wsX11_debt := qVm 589 (by decide +kernel)
theorem qaxN : (.fieldLink RX11 68 "MarchHaresModel" "now" "[I" : Cond) ∈ wsX11_debt := qVm 456 (by decide +kernel)
set_option maxHeartbeats 4000000 in
set_option maxRecDepth 100000 in
theorem qaX9 (l : Launch) (dC : Nat → ClassId) (dI : Nat → Nat → Nat) (cyB cyI cyJ cyP : ClassId) (a0 jaQ jaT sz : Nat) (jaD ja7 jby jbf jaM jaY jap jaK jal jam jax jao ja6 jaV ja8 jae jag jaf ja0 jaP jaw jaI jaZ jaH jaS jan jaU jaE jar jaL jah jaB jaa jaz jaG jab z0_s jaq jai jaO jaA jat jau jav jaj jas jaJ jak jad jay jac : Value) (jaC : Int32) (jb0 : NI) (jbd : Int32) (ja9 : NI) (p1 p2 : Int32) {Q : Int32 → Int32 → NI → Prop} (hw : q8r jaC jb0 jbd ja9 p1 p2 Q) : Met l yX11_debt wsX11_debt ({ frames := 2, cells := 0, slots := 0, locals := 45 }) (va_Pc [.ref a0, .int p1, .int p2] (cPc (dC, dI) (kT cyB cyI cyJ cyP) (q2k a0 jbd jaQ jaD ja7 jby jbf jaM jaY jap jaK jal jam jax jao ja6 jaV ja8 jae jag jaf ja0 jaC jaP jaw jaI jaZ jaH jaS jan jaU jaE jar jaL jah jaB jaa jaz jaG jab jaT z0_s jaq jai jaO jaA jat jau jav jaj jas jaJ jak jad jay jac jaQ cyI ja9 jaT cyI jb0) sz)) (va_Qi (fun (r : Int32) (u : Int32 × NI) => Q r u.1 u.2) (cB (dC, dI) (kT cyB cyI cyJ cyP) (va_A (q2k a0 jbd jaQ jaD ja7 jby jbf jaM jaY jap jaK jal jam jax jao ja6 jaV ja8 jae jag jaf ja0 jaC jaP jaw jaI jaZ jaH jaS jan jaU jaE jar jaL jah jaB jaa jaz jaG jab jaT z0_s jaq jai jaO jaA jat jau jav jaj jas jaJ jak jad jay jac jaQ cyI ja9 jaT cyI jb0) sz) (fun u : Int32 × NI => ((q2k a0 u.1 jaQ jaD ja7 jby jbf jaM jaY jap jaK jal jam jax jao ja6 jaV ja8 jae jag jaf ja0 jaC jaP jaw jaI jaZ jaH jaS jan jaU jaE jar jaL jah jaB jaa jaz jaG jab jaT z0_s jaq jai jaO jaA jat jau jav jaj jas jaJ jak jad jay jac jaQ cyI u.2 jaT cyI jb0) : va_W))) (va_A (q2k a0 jbd jaQ jaD ja7 jby jbf jaM jaY jap jaK jal jam jax jao ja6 jaV ja8 jae jag jaf ja0 jaC jaP jaw jaI jaZ jaH jaS jan jaU jaE jar jaL jah jaB jaa jaz jaG jab jaT z0_s jaq jai jaO jaA jat jau jav jaj jas jaJ jak jad jay jac jaQ cyI ja9 jaT cyI jb0) sz)) 0 0 (va_A (q2k a0 jbd jaQ jaD ja7 jby jbf jaM jaY jap jaK jal jam jax jao ja6 jaV ja8 jae jag jaf ja0 jaC jaP jaw jaI jaZ jaH jaS jan jaU jaE jar jaL jah jaB jaa jaz jaG jab jaT z0_s jaq jai jaO jaA jat jau jav jaj jas jaJ jak jad jay jac jaQ cyI ja9 jaT cyI jb0) sz) := by
  refine Met.ofW (cc := cX11_debt) (maxL := 3) (ret := (some .int)) (by decide) rfl ?_
  intro p e s m args below meth c s₁ B hml hv
  obtain ⟨rfl, hsz, hP, hK, hD0, hNw⟩ := hv
  have hx := B.exec
  have hb := B.bytes
  have hr := B.returns
  have hts := atoms_spec (ws := wsX11_debt) B.pre
  have hown : s.vm.findClass RX11 = some m.cls := findClass_of_methodNamed B.named
  have hlocks := B.notSynchronized
  subst hsz
  have hD := hD0.self (sz := s.heap.size)
  generalize hAe : va_A (q2k a0 jbd jaQ jaD ja7 jby jbf jaM jaY jap jaK jal jam jax jao ja6 jaV ja8 jae jag jaf ja0 jaC jaP jaw jaI jaZ jaH jaS jan jaU jaE jar jaL jah jaB jaa jaz jaG jab jaT z0_s jaq jai jaO jaA jat jau jav jaj jas jaJ jak jad jay jac jaQ cyI ja9 jaT cyI jb0) s.heap.size = A at hD ⊢
  have hA : ∀ q : Nat, s.heap.size ≤ q → A q := fun q h => by rw [← hAe]; exact Or.inr h
  have hS : va_S A s.heap s.heap [] := va_S.rf
  have hP : va_P (dC, dI) vwCl (q2k a0 jbd jaQ jaD ja7 jby jbf jaM jaY jap jaK jal jam jax jao ja6 jaV ja8 jae jag jaf ja0 jaC jaP jaw jaI jaZ jaH jaS jan jaU jaE jar jaL jah jaB jaa jaz jaG jab jaT z0_s jaq jai jaO jaA jat jau jav jaj jas jaJ jak jad jay jac jaQ cyI ja9 jaT cyI jb0) s.heap := hP
  have hl := lv_entry ([.ref a0, .int p1, .int p2]) (n := 3) (nbq rfl)
  rw [lg_entry_eq]
  generalize (lg_sl ([.ref a0, .int p1, .int p2]) ++ List.replicate (3 - (lg_sl ([.ref a0, .int p1, .int p2])).length) Slot.unset).toArray = ls at hl ⊢
  have hl : lv_has ls 3 [(0, .ref a0), (1, .int p1), (2, .int p2)] := hl
  have C0 : cfx p s m _ meth c cX11_debt (some .int) wsX11_debt RX11 3 A (dC, dI) (kT cyB cyI cyJ cyP) := ⟨hx, hb, hr, hts, hown, hlocks, hml, hA, hK, hNw⟩
  clear hAe
  obtain ⟨H, hH⟩ : ∃ H, H = s.heap := ⟨_, rfl⟩
  rw [← hH] at hP ⊢
  have hS : va_S A s.heap H [] := by rw [hH]; exact va_S.rf
  have hS := hS
  refine lv_aload_n hx hb (qaa qmg 0 rfl) rfl (lv_at hl 0 rfl) ?_
  refine lv_iconst (v := 0) hx hb (qaa qmg 1 rfl) (by decide) ?_
  refine va_put (D := (dC, dI)) (ci := 11) (v := .int 0) (ty := .int) (C := RX11) (T := TX11) (N := 55) hx hb hts q1U tyX11 tyX11_ok nmX11 hown hK hP hD hS 0 rfl rfl 0 (by decide) (hts _ qaKM) (fun _ h9 => h9) rfl (by decide +kernel) rfl rfl (nbq rfl) (qaa qmg 2 rfl) (fun H locs hP hD hS => ?_)
  have hP : va_P (dC, dI) vwCl (q2k a0 0 jaQ jaD ja7 jby jbf jaM jaY jap jaK jal jam jax jao ja6 jaV ja8 jae jag jaf ja0 jaC jaP jaw jaI jaZ jaH jaS jan jaU jaE jar jaL jah jaB jaa jaz jaG jab jaT z0_s jaq jai jaO jaA jat jau jav jaj jas jaJ jak jad jay jac jaQ cyI ja9 jaT cyI jb0) H := hP
  have hD : va_D A (q2k a0 0 jaQ jaD ja7 jby jbf jaM jaY jap jaK jal jam jax jao ja6 jaV ja8 jae jag jaf ja0 jaC jaP jaw jaI jaZ jaH jaS jan jaU jaE jar jaL jah jaB jaa jaz jaG jab jaT z0_s jaq jai jaO jaA jat jau jav jaj jas jaJ jak jad jay jac jaQ cyI ja9 jaT cyI jb0) := hD
  refine lv_aload_n hx hb (qaa qmg 3 rfl) rfl (lv_at hl 0 rfl) ?_
  refine lv_iload_n hx hb (qaa qmg 4 rfl) rfl (lv_at hl 1 rfl) ?_
  refine lv_iconst (v := 1) hx hb (qaa qmg 5 rfl) (by decide) ?_
  obtain ⟨hCc, hPc, hDc, hFc⟩ := qac (ws' := (qaZ2 a0 0 jaQ jaD ja7 jby jbf jaM jaY jap jaK jal jam jax jao ja6 jaV ja8 jae jag jaf ja0 jaC jaP jaw jaI jaZ jaH jaS jan jaU jaE jar jaL jah jaB jaa jaz jaG jab jaT z0_s jaq jai jaO jaA jat jau jav jaj jas jaJ jak jad jay jac jaQ cyI ja9)) hP hD hS hA [0, 1] (by decide +kernel) rfl
  refine va_calli (va_runV (As := [.int p1, .int 1]) (rest := []) ⟨hx, hb, hml, hown, hts⟩ (qtz l dC dI cyB cyI cyJ cyP a0 jaQ H.size (jaD) (ja7) (jby) (jbf) (jaM) (jaY) (jap) (jaK) (jal) (jam) (jax) (jao) (ja6) (jaV) (ja8) (jae) (jag) (jaf) (ja0) (jaP) (jaw) (jaI) (jaZ) (jaH) (jaS) (jan) (jaU) (jaE) (jar) (jaL) (jah) (jaB) (jaa) (jaz) (jaG) (jab) (.ref jaT) (z0_s) (jaq) (jai) (jaO) (jaA) (jat) (jau) (jav) (jaj) (jas) (jaJ) (jak) (jad) (jay) (jac) jaC 0 ja9 p1 1 hw) (cwV 2 hts gX11_debt_X11_isHare rfl rfl rfl (by decide +kernel) ⟨nbq rfl, nbq rfl⟩) ⟨qab, va_recv (q := (RX11, TX11, 55)) hK hPc (ci := 11) (q0 := 0) rfl rfl, qae hPc hK hDc hNw⟩ rfl rfl hl.1 rfl (lv_room (nbq rfl)) (qaa qmg 6 rfl) ⟨nbq rfl, nbq rfl⟩) hS (fun q _ h => hFc q h) hFc (fun r3 u t H1 locs ht hvm hw hB hz1 hk1 hS => ?_)
  obtain ⟨x1, f2⟩ := u
  obtain ⟨hP1, hK1, hD1⟩ := hB
  rw [ht] at hP1
  obtain ⟨hP, hD⟩ := qad (wr := [(jaT, .inl (cyI, 68, .inl jb0))]) (w1 := (qaZ2 a0 x1 jaQ jaD ja7 jby jbf jaM jaY jap jaK jal jam jax jao ja6 jaV ja8 jae jag jaf ja0 jaC jaP jaw jaI jaZ jaH jaS jan jaU jaE jar jaL jah jaB jaa jaz jaG jab jaT z0_s jaq jai jaO jaA jat jau jav jaj jas jaJ jak jad jay jac jaQ cyI f2)) (wn := (q2k a0 x1 jaQ jaD ja7 jby jbf jaM jaY jap jaK jal jam jax jao ja6 jaV ja8 jae jag jaf ja0 jaC jaP jaw jaI jaZ jaH jaS jan jaU jaE jar jaL jah jaB jaa jaz jaG jab jaT z0_s jaq jai jaO jaA jat jau jav jaj jas jaJ jak jad jay jac jaQ cyI f2 jaT cyI jb0)) hP hD [0, 1] [2] [1, 2, 0] hCc rfl (by decide +kernel) (by decide +kernel) (by decide +kernel) rfl hk1 hFc hP1 hD1
  generalize H1 = H at hP hS ⊢
  refine lv_if_eq (tgt := 40) hx hb (qaa qmg 7 rfl) (by decide) (fun c4 => ?_) (fun c4 => ?_)
  · have hw := hw.1 c4
    refine lv_iconst (v := 0) hx hb (qaa qof 8 rfl) (by decide) ?_
    exact ((W.iret (v := 0) hx hb hr (fun t ht hW => ⟨⟨0, (x1, f2), rfl, hw, by rw [ht]; exact hP, va_K.moved hW.alike hK, hD⟩, hS.F ht⟩) hS.2.2 (qaa qof 9 rfl)))
  · have hw := hw.2 c4
    refine lv_aload_n hx hb (qaa qmg 8 rfl) rfl (lv_at hl 0 rfl) ?_
    refine lv_iload_n hx hb (qaa qmg 9 rfl) rfl (lv_at hl 2 rfl) ?_
    refine lv_iconst (v := 1) hx hb (qaa qmg 10 rfl) (by decide) ?_
    obtain ⟨hCc, hPc, hDc, hFc⟩ := qac (ws' := (qaZ2 a0 x1 jaQ jaD ja7 jby jbf jaM jaY jap jaK jal jam jax jao ja6 jaV ja8 jae jag jaf ja0 jaC jaP jaw jaI jaZ jaH jaS jan jaU jaE jar jaL jah jaB jaa jaz jaG jab jaT z0_s jaq jai jaO jaA jat jau jav jaj jas jaJ jak jad jay jac jaQ cyI f2)) hP hD hS hA [0, 1] (by decide +kernel) rfl
    refine va_calli (va_runV (As := [.int p2, .int 1]) (rest := []) ⟨hx, hb, hml, hown, hts⟩ (qtz l dC dI cyB cyI cyJ cyP a0 jaQ H.size (jaD) (ja7) (jby) (jbf) (jaM) (jaY) (jap) (jaK) (jal) (jam) (jax) (jao) (ja6) (jaV) (ja8) (jae) (jag) (jaf) (ja0) (jaP) (jaw) (jaI) (jaZ) (jaH) (jaS) (jan) (jaU) (jaE) (jar) (jaL) (jah) (jaB) (jaa) (jaz) (jaG) (jab) (.ref jaT) (z0_s) (jaq) (jai) (jaO) (jaA) (jat) (jau) (jav) (jaj) (jas) (jaJ) (jak) (jad) (jay) (jac) jaC x1 f2 p2 1 hw) (cwV 2 hts gX11_debt_X11_isHare rfl rfl rfl (by decide +kernel) ⟨nbq rfl, nbq rfl⟩) ⟨qab, va_recv (q := (RX11, TX11, 55)) hK hPc (ci := 11) (q0 := 0) rfl rfl, qae hPc hK hDc hNw⟩ rfl rfl hl.1 rfl (lv_room (nbq rfl)) (qaa qmg 11 rfl) ⟨nbq rfl, nbq rfl⟩) hS (fun q _ h => hFc q h) hFc (fun r7 u t H1 locs ht hvm hw hB hz1 hk1 hS => ?_)
    obtain ⟨x5, f6⟩ := u
    obtain ⟨hP1, hK1, hD1⟩ := hB
    rw [ht] at hP1
    obtain ⟨hP, hD⟩ := qad (wr := [(jaT, .inl (cyI, 68, .inl jb0))]) (w1 := (qaZ2 a0 x5 jaQ jaD ja7 jby jbf jaM jaY jap jaK jal jam jax jao ja6 jaV ja8 jae jag jaf ja0 jaC jaP jaw jaI jaZ jaH jaS jan jaU jaE jar jaL jah jaB jaa jaz jaG jab jaT z0_s jaq jai jaO jaA jat jau jav jaj jas jaJ jak jad jay jac jaQ cyI f6)) (wn := (q2k a0 x5 jaQ jaD ja7 jby jbf jaM jaY jap jaK jal jam jax jao ja6 jaV ja8 jae jag jaf ja0 jaC jaP jaw jaI jaZ jaH jaS jan jaU jaE jar jaL jah jaB jaa jaz jaG jab jaT z0_s jaq jai jaO jaA jat jau jav jaj jas jaJ jak jad jay jac jaQ cyI f6 jaT cyI jb0)) hP hD [0, 1] [2] [1, 2, 0] hCc rfl (by decide +kernel) (by decide +kernel) (by decide +kernel) rfl hk1 hFc hP1 hD1
    generalize H1 = H at hP hS ⊢
    refine lv_if_eq (tgt := 40) hx hb (qaa qmg 12 rfl) (by decide) (fun c8 => ?_) (fun c8 => ?_)
    · have hw := hw.1 c8
      refine lv_iconst (v := 0) hx hb (qaa qof 8 rfl) (by decide) ?_
      exact ((W.iret (v := 0) hx hb hr (fun t ht hW => ⟨⟨0, (x5, f6), rfl, hw, by rw [ht]; exact hP, va_K.moved hW.alike hK, hD⟩, hS.F ht⟩) hS.2.2 (qaa qof 9 rfl)))
    · have hw := hw.2 c8
      refine lv_aload_n hx hb (qaa qmg 13 rfl) rfl (lv_at hl 0 rfl) ?_
      refine va_get (D := (dC, dI)) (ci := 11) (v := .ref jaT) (C := RX11) (T := TX11) (N := 55) hx hb hts q1U hown hK hP 0 rfl rfl 39 (by decide) (hts _ qaxN) (fun _ h9 => h9) rfl (qaa qmg 14 rfl) ?_
      refine lv_bipush (v := 30) hx hb (qaa qmg 15 rfl) (by decide) ?_
      refine lv_bipush (v := 6) hx hb (qaa qof 0 rfl) (by decide) ?_
      refine lv_iload_n hx hb (qaa qof 1 rfl) rfl (lv_at hl 1 rfl) ?_
      refine lv_imul hx hb (qaa qof 2 rfl) ?_
      refine lv_iadd hx hb (qaa qof 3 rfl) ?_
      refine lv_topi (fun x9 ex9 => ?_)
      have hw := hw x9 ex9
      refine lv_iload_n hx hb (qaa qof 4 rfl) rfl (lv_at hl 2 rfl) ?_
      refine lv_iadd hx hb (qaa qof 5 rfl) ?_
      refine lv_topi (fun x10 ex10 => ?_)
      have hw := hw x10 ex10
      obtain ⟨hi9, hw⟩ := hw
      refine va_iald hx hb hK hP 2 1 rfl rfl hi9 (qaa qof 6 rfl) ?_
      refine lv_topi (fun x11 ex11 => ?_)
      have hw := hw x11 ex11
      refine lv_goto (tgt := 41) hx hb (qaa qof 7 rfl) (by decide) ?_
      exact ((W.iret (v := x11) hx hb hr (fun t ht hW => ⟨⟨x11, (x5, f6), rfl, hw, by rw [ht]; exact hP, va_K.moved hW.alike hK, hD⟩, hS.F ht⟩) hS.2.2 (qaa qof 9 rfl)))
set_option maxHeartbeats 4000000 in
set_option maxRecDepth 100000 in
theorem q7c (l : Launch) (dC : Nat → ClassId) (dI : Nat → Nat → Nat) (cyB cyI cyJ cyP : ClassId) (sz : Nat) (p0 : Int32) {Q : Int32 → Prop} (hw : qKC p0 Q) : Met l yX11_isSmall wsX11_isSmall ({ frames := 0, cells := 0, slots := 0, locals := 0 }) (va_Pc [.int p0] (cPc (dC, dI) (kT cyB cyI cyJ cyP) [] sz)) (va_Qi (fun (r : Int32) (_ : Unit) => Q r ) (cB (dC, dI) (kT cyB cyI cyJ cyP) (va_A [] sz) (fun u : Unit => ([] : va_W))) (va_A [] sz)) 0 0 (va_A [] sz) := by
  refine Met.ofW (cc := cX11_isSmall) (maxL := 1) (ret := (some .boolean)) (by decide) rfl ?_
  intro p e s m args below meth c s₁ B hml hv
  obtain ⟨rfl, hsz, hP, hK, hD0, hNw⟩ := hv
  have hx := B.exec
  have hb := B.bytes
  have hr := B.returns
  have hts := atoms_spec (ws := wsX11_isSmall) B.pre
  have hown : s.vm.findClass RX11 = some m.cls := findClass_of_methodNamed B.named
  have hlocks := B.notSynchronized
  subst hsz
  have hD := hD0.self (sz := s.heap.size)
  generalize hAe : va_A [] s.heap.size = A at hD ⊢
  have hA : ∀ q : Nat, s.heap.size ≤ q → A q := fun q h => by rw [← hAe]; exact Or.inr h
  have hS : va_S A s.heap s.heap [] := va_S.rf
  have hP : va_P (dC, dI) vwCl [] s.heap := hP
  have hl := lv_entry ([.int p0]) (n := 1) (nbq rfl)
  rw [lg_entry_eq]
  generalize (lg_sl ([.int p0]) ++ List.replicate (1 - (lg_sl ([.int p0])).length) Slot.unset).toArray = ls at hl ⊢
  have hl : lv_has ls 1 [(0, .int p0)] := hl
  have C0 : cfx p s m _ meth c cX11_isSmall (some .boolean) wsX11_isSmall RX11 1 A (dC, dI) (kT cyB cyI cyJ cyP) := ⟨hx, hb, hr, hts, hown, hlocks, hml, hA, hK, hNw⟩
  clear hAe
  obtain ⟨H, hH⟩ : ∃ H, H = s.heap := ⟨_, rfl⟩
  rw [← hH] at hP ⊢
  have hS : va_S A s.heap H [] := by rw [hH]; exact va_S.rf
  have hS := hS
  refine lv_iload_n hx hb (qaa qkK 0 rfl) rfl (lv_at hl 0 rfl) ?_
  refine lv_bipush (v := 97) hx hb (qaa qkK 1 rfl) (by decide) ?_
  refine lv_icmp_lt (tgt := 16) hx hb (qaa qkK 2 rfl) (by decide) (fun c1 => ?_) (fun c1 => ?_)
  · have hw := hw.1 c1
    refine lv_iconst (v := 0) hx hb (qaa qkK 8 rfl) (by decide) ?_
    exact ((W.zret (v := 0) hx hb hr rfl (fun t ht hW => ⟨⟨0, (), rfl, hw, by rw [ht]; exact hP, va_K.moved hW.alike hK, hD⟩, hS.F ht⟩) hS.2.2 (qaa qkK 9 rfl)))
  · have hw := hw.2 c1
    refine lv_iload_n hx hb (qaa qkK 3 rfl) rfl (lv_at hl 0 rfl) ?_
    refine lv_bipush (v := 122) hx hb (qaa qkK 4 rfl) (by decide) ?_
    refine lv_icmp_gt (tgt := 16) hx hb (qaa qkK 5 rfl) (by decide) (fun c2 => ?_) (fun c2 => ?_)
    · have hw := hw.1 c2
      refine lv_iconst (v := 0) hx hb (qaa qkK 8 rfl) (by decide) ?_
      exact ((W.zret (v := 0) hx hb hr rfl (fun t ht hW => ⟨⟨0, (), rfl, hw, by rw [ht]; exact hP, va_K.moved hW.alike hK, hD⟩, hS.F ht⟩) hS.2.2 (qaa qkK 9 rfl)))
    · have hw := hw.2 c2
      refine lv_iconst (v := 1) hx hb (qaa qkK 6 rfl) (by decide) ?_
      refine lv_goto (tgt := 17) hx hb (qaa qkK 7 rfl) (by decide) ?_
      exact ((W.zret (v := 1) hx hb hr rfl (fun t ht hW => ⟨⟨1, (), rfl, hw, by rw [ht]; exact hP, va_K.moved hW.alike hK, hD⟩, hS.F ht⟩) hS.2.2 (qaa qkK 9 rfl)))
theorem qIU : ∀ w ∈ u_ws RX11 TX11 55, w ∈ wsX11_word := uiM qGt qga (by decide +kernel)
theorem qaqw : (.fieldLink RX11 120 "MarchHaresModel" "at" "I" : Cond) ∈ wsX11_word := qGt 1103 (by decide +kernel)
theorem qaoC : (.fieldLink RX11 123 "MarchHaresModel" "size" "I" : Cond) ∈ wsX11_word := qGt 1153 (by decide +kernel)
theorem q3J : (.fieldLink RX11 20 "MarchHaresModel" "tape" "[I" : Cond) ∈ wsX11_word := qGt 400 (by decide +kernel)
set_option maxHeartbeats 4000000 in
set_option maxRecDepth 100000 in
theorem q7u {p : Program} {l : Launch} {e : Env} {s : State} {m : MethodId} {args : Array Value} {below : List Frame} {meth : Method} {c : Code} {A : Nat → Prop} (dC : Nat → ClassId) (dI : Nat → Nat → Nat) (cyB cyI cyJ cyP : ClassId) (a0 jaW : Nat) (jaX jaF jaD jbf jaM jaY jap jal jam jax jao ja6 jaV ja8 jae jag jaf ja0 ja4 jaP jaw jaI jaZ jaH jaS jan jaU jaE jar jaL jah jaB jaa jaz jaG jab ja2 z0_s jaq jai jaO jaA jat jau jav jaj jas jaJ jak jad jay jac : Value) (jbx : Int32) (jbC : NI) (Q : Int32 → Int32 → Prop) (K14 : Int32 → Int32 → Int32 → Int32 → Prop) (hK14 : ∀ (H : Heap) (locs : List Loc) (ls : Array Slot) (jcP l1 l2 l3 : Int32), va_P (dC, dI) vwCl (qnU a0 jaX jaF jaD jbx jcP jbf jaM jaY jap jaW jal jam jax jao ja6 jaV ja8 jae jag jaf ja0 ja4 jaP jaw jaI jaZ jaH jaS jan jaU jaE jar jaL jah jaB jaa jaz jaG jab ja2 z0_s jaq jai jaO jaA jat jau jav jaj jas jaJ jak jad jay jac jaW cyI jbC) H → va_D A (qnU a0 jaX jaF jaD jbx jcP jbf jaM jaY jap jaW jal jam jax jao ja6 jaV ja8 jae jag jaf ja0 ja4 jaP jaw jaI jaZ jaH jaS jan jaU jaE jar jaL jah jaB jaa jaz jaG jab ja2 z0_s jaq jai jaO jaA jat jau jav jaj jas jaJ jak jad jay jac jaW cyI jbC) → va_S A s.heap H locs → lv_has ls 4 [(0, .ref a0), (1, .int l1), (2, .int l2), (3, .int l3)] → K14 jcP l1 l2 l3 → W p l e (headSpec wsX11_word ({ frames := 1, cells := 0, slots := 0, locals := 20 })).room s m args below meth c H locs 0 0 (MQ below (va_Qi (fun (r u : Int32) => Q r u) (cB (dC, dI) (kT cyB cyI cyJ cyP) A (fun u : Int32 => ((qnU a0 jaX jaF jaD jbx u jbf jaM jaY jap jaW jal jam jax jao ja6 jaV ja8 jae jag jaf ja0 ja4 jaP jaw jaI jaZ jaH jaS jan jaU jaE jar jaL jah jaB jaa jaz jaG jab ja2 z0_s jaq jai jaO jaA jat jau jav jaj jas jaJ jak jad jay jac jaW cyI jbC) : va_W))) A) args s 0 0 A) (F0 m 14 ls [])) (C0 : cfx p s m args meth c cX11_word (some .int) wsX11_word RX11 4 A (dC, dI) (kT cyB cyI cyJ cyP)) : ∀ (H : Heap) (locs : List Loc) (ls : Array Slot) (jcP l2 l3 s0 : Int32), va_P (dC, dI) vwCl (qnU a0 jaX jaF jaD jbx jcP jbf jaM jaY jap jaW jal jam jax jao ja6 jaV ja8 jae jag jaf ja0 ja4 jaP jaw jaI jaZ jaH jaS jan jaU jaE jar jaL jah jaB jaa jaz jaG jab ja2 z0_s jaq jai jaO jaA jat jau jav jaj jas jaJ jak jad jay jac jaW cyI jbC) H → va_D A (qnU a0 jaX jaF jaD jbx jcP jbf jaM jaY jap jaW jal jam jax jao ja6 jaV ja8 jae jag jaf ja0 ja4 jaP jaw jaI jaZ jaH jaS jan jaU jaE jar jaL jah jaB jaa jaz jaG jab ja2 z0_s jaq jai jaO jaA jat jau jav jaj jas jaJ jak jad jay jac jaW cyI jbC) → va_S A s.heap H locs → lv_has ls 4 [(0, .ref a0), (2, .int l2), (3, .int l3)] → qTe jbx jbC Q K14 jcP l2 l3 s0 → W p l e (headSpec wsX11_word ({ frames := 1, cells := 0, slots := 0, locals := 20 })).room s m args below meth c H locs 0 0 (MQ below (va_Qi (fun (r u : Int32) => Q r u) (cB (dC, dI) (kT cyB cyI cyJ cyP) A (fun u : Int32 => ((qnU a0 jaX jaF jaD jbx u jbf jaM jaY jap jaW jal jam jax jao ja6 jaV ja8 jae jag jaf ja0 ja4 jaP jaw jaI jaZ jaH jaS jan jaU jaE jar jaL jah jaB jaa jaz jaG jab ja2 z0_s jaq jai jaO jaA jat jau jav jaj jas jaJ jak jad jay jac jaW cyI jbC) : va_W))) A) args s 0 0 A) (F0 m 57 ls [.int s0]) := by
  obtain ⟨hx, hb, hr, hts, hown, hlocks, hml, hA, hK, hNw⟩ := id C0
  intro H locs ls jcP l2 l3 s0 hP hD hS hl hw
  refine lv_istore_n (lv' := [(1, .int s0), (0, .ref a0), (2, .int l2), (3, .int l3)]) hx hb (qaa qk9 3 rfl) rfl hl (by decide) rfl (fun ls hl => ?_)
  obtain ⟨x10, ex10⟩ : ∃ y : Int32, y = l2 + 1 := ⟨_, rfl⟩
  have hw := hw x10 ex10
  refine lv_iinc (v := x10) (lv' := [(2, .int x10), (1, .int s0), (0, .ref a0), (3, .int l3)]) hx hb (qaa qk9 4 rfl) hl (k := 2) rfl (by rw [ex10]; rfl) (by decide) rfl (fun ls hl => ?_)
  obtain ⟨x11, ex11⟩ : ∃ y : Int32, y = l3 + 1 := ⟨_, rfl⟩
  have hw := hw x11 ex11
  refine lv_iinc (v := x11) (lv' := [(3, .int x11), (2, .int x10), (1, .int s0), (0, .ref a0)]) hx hb (qaa qk9 5 rfl) hl (k := 3) rfl (by rw [ex11]; rfl) (by decide) rfl (fun ls hl => ?_)
  refine lv_goto (tgt := 14) hx hb (qaa qk9 6 rfl) (by decide) ?_
  exact hK14 _ _ _ jcP s0 x10 x11 hP hD hS (lv_sub hl [3, 2, 1, 0] rfl) hw
set_option maxHeartbeats 4000000 in
set_option maxRecDepth 100000 in
theorem q8h {p : Program} {l : Launch} {e : Env} {s : State} {m : MethodId} {args : Array Value} {below : List Frame} {meth : Method} {c : Code} {A : Nat → Prop} (dC : Nat → ClassId) (dI : Nat → Nat → Nat) (cyB cyI cyJ cyP : ClassId) (a0 jaW : Nat) (jaX jaF jaD jbf jaM jaY jap jal jam jax jao ja6 jaV ja8 jae jag jaf ja0 ja4 jaP jaw jaI jaZ jaH jaS jan jaU jaE jar jaL jah jaB jaa jaz jaG jab ja2 z0_s jaq jai jaO jaA jat jau jav jaj jas jaJ jak jad jay jac : Value) (jbx : Int32) (jbC : NI) (Q : Int32 → Int32 → Prop) (C0 : cfx p s m args meth c cX11_word (some .int) wsX11_word RX11 4 A (dC, dI) (kT cyB cyI cyJ cyP)) : ∀ (H : Heap) (locs : List Loc) (ls : Array Slot) (jcP l1 l2 : Int32), va_P (dC, dI) vwCl (qnU a0 jaX jaF jaD jbx jcP jbf jaM jaY jap jaW jal jam jax jao ja6 jaV ja8 jae jag jaf ja0 ja4 jaP jaw jaI jaZ jaH jaS jan jaU jaE jar jaL jah jaB jaa jaz jaG jab ja2 z0_s jaq jai jaO jaA jat jau jav jaj jas jaJ jak jad jay jac jaW cyI jbC) H → va_D A (qnU a0 jaX jaF jaD jbx jcP jbf jaM jaY jap jaW jal jam jax jao ja6 jaV ja8 jae jag jaf ja0 ja4 jaP jaw jaI jaZ jaH jaS jan jaU jaE jar jaL jah jaB jaa jaz jaG jab ja2 z0_s jaq jai jaO jaA jat jau jav jaj jas jaJ jak jad jay jac jaW cyI jbC) → va_S A s.heap H locs → lv_has ls 4 [(1, .int l1), (2, .int l2)] → qKk jbx jbC Q jcP l1 l2 → W p l e (headSpec wsX11_word ({ frames := 1, cells := 0, slots := 0, locals := 20 })).room s m args below meth c H locs 0 0 (MQ below (va_Qi (fun (r u : Int32) => Q r u) (cB (dC, dI) (kT cyB cyI cyJ cyP) A (fun u : Int32 => ((qnU a0 jaX jaF jaD jbx u jbf jaM jaY jap jaW jal jam jax jao ja6 jaV ja8 jae jag jaf ja0 ja4 jaP jaw jaI jaZ jaH jaS jan jaU jaE jar jaL jah jaB jaa jaz jaG jab ja2 z0_s jaq jai jaO jaA jat jau jav jaj jas jaJ jak jad jay jac jaW cyI jbC) : va_W))) A) args s 0 0 A) (F0 m 67 ls []) := by
  obtain ⟨hx, hb, hr, hts, hown, hlocks, hml, hA, hK, hNw⟩ := id C0
  intro H locs ls jcP l1 l2 hP hD hS hl hw
  refine lv_iload_n hx hb (qaa qk9 7 rfl) rfl (lv_at hl 1 rfl) ?_
  refine lv_bipush (v := 6) hx hb (qaa qk9 8 rfl) (by decide) ?_
  refine lv_icmp_le (tgt := 77) hx hb (qaa qk9 9 rfl) (by decide) (fun c9 => ?_) (fun c9 => ?_)
  · have hw := hw.1 c9
    refine lv_iload_n hx hb (qaa qk9 12 rfl) rfl (lv_at hl 0 rfl) ?_
    exact ((W.iret (v := l1) hx hb hr (fun t ht hW => ⟨⟨l1, (jcP), rfl, hw, by rw [ht]; exact hP, va_K.moved hW.alike hK, hD⟩, hS.F ht⟩) hS.2.2 (qaa qk9 13 rfl)))
  · have hw := hw.2 c9
    refine lv_iconst (v := 0) hx hb (qaa qk9 10 rfl) (by decide) ?_
    refine lv_goto (tgt := 78) hx hb (qaa qk9 11 rfl) (by decide) ?_
    exact ((W.iret (v := 0) hx hb hr (fun t ht hW => ⟨⟨0, (jcP), rfl, hw, by rw [ht]; exact hP, va_K.moved hW.alike hK, hD⟩, hS.F ht⟩) hS.2.2 (qaa qk9 13 rfl)))
set_option maxHeartbeats 4000000 in
set_option maxRecDepth 100000 in
theorem qaEX {p : Program} {l : Launch} {e : Env} {s : State} {m : MethodId} {args : Array Value} {below : List Frame} {meth : Method} {c : Code} {A : Nat → Prop} (dC : Nat → ClassId) (dI : Nat → Nat → Nat) (cyB cyI cyJ cyP : ClassId) (a0 jaW : Nat) (jaX jaF jaD jbf jaM jaY jap jal jam jax jao ja6 jaV ja8 jae jag jaf ja0 ja4 jaP jaw jaI jaZ jaH jaS jan jaU jaE jar jaL jah jaB jaa jaz jaG jab ja2 z0_s jaq jai jaO jaA jat jau jav jaj jas jaJ jak jad jay jac : Value) (jbx : Int32) (jbC : NI) (Q : Int32 → Int32 → Prop) (C0 : cfx p s m args meth c cX11_word (some .int) wsX11_word RX11 4 A (dC, dI) (kT cyB cyI cyJ cyP)) : ∀ (n : Nat) (H : Heap) (locs : List Loc) (ls : Array Slot) (jcP l1 l2 l3 : Int32), va_P (dC, dI) vwCl (qnU a0 jaX jaF jaD jbx jcP jbf jaM jaY jap jaW jal jam jax jao ja6 jaV ja8 jae jag jaf ja0 ja4 jaP jaw jaI jaZ jaH jaS jan jaU jaE jar jaL jah jaB jaa jaz jaG jab ja2 z0_s jaq jai jaO jaA jat jau jav jaj jas jaJ jak jad jay jac jaW cyI jbC) H → va_D A (qnU a0 jaX jaF jaD jbx jcP jbf jaM jaY jap jaW jal jam jax jao ja6 jaV ja8 jae jag jaf ja0 ja4 jaP jaw jaI jaZ jaH jaS jan jaU jaE jar jaL jah jaB jaa jaz jaG jab ja2 z0_s jaq jai jaO jaA jat jau jav jaj jas jaJ jak jad jay jac jaW cyI jbC) → va_S A s.heap H locs → lv_has ls 4 [(0, .ref a0), (1, .int l1), (2, .int l2), (3, .int l3)] → qxD jbx jbC Q n jcP l1 l2 l3 → W p l e (headSpec wsX11_word ({ frames := 1, cells := 0, slots := 0, locals := 20 })).room s m args below meth c H locs 0 0 (MQ below (va_Qi (fun (r u : Int32) => Q r u) (cB (dC, dI) (kT cyB cyI cyJ cyP) A (fun u : Int32 => ((qnU a0 jaX jaF jaD jbx u jbf jaM jaY jap jaW jal jam jax jao ja6 jaV ja8 jae jag jaf ja0 ja4 jaP jaw jaI jaZ jaH jaS jan jaU jaE jar jaL jah jaB jaa jaz jaG jab ja2 z0_s jaq jai jaO jaA jat jau jav jaj jas jaJ jak jad jay jac jaW cyI jbC) : va_W))) A) args s 0 0 A) (F0 m 14 ls []) := by
  obtain ⟨hx, hb, hr, hts, hown, hlocks, hml, hA, hK, hNw⟩ := id C0
  intro n
  induction n with
  | zero => intro H locs ls jcP l1 l2 l3 hP hD hS hl hw; exact False.elim hw
  | succ n ih =>
    intro H locs ls jcP l1 l2 l3 hP hD hS hl hw
    refine lv_iload_n hx hb (qaa qmc 10 rfl) rfl (lv_at hl 3 rfl) ?_
    refine lv_aload_n hx hb (qaa qmc 11 rfl) rfl (lv_at hl 0 rfl) ?_
    refine va_get (D := (dC, dI)) (ci := 11) (v := .int jbx) (C := RX11) (T := TX11) (N := 55) hx hb hts qIU hown hK hP 0 rfl rfl 3 (by decide) (hts _ qaoC) (fun _ h9 => h9) rfl (qaa qmc 12 rfl) ?_
    refine lv_icmp_ge (tgt := 67) hx hb (qaa qmc 13 rfl) (by decide) (fun c3 => ?_) (fun c3 => ?_)
    · have hw := hw.1 c3
      exact q8h dC dI cyB cyI cyJ cyP a0 jaW jaX jaF jaD jbf jaM jaY jap jal jam jax jao ja6 jaV ja8 jae jag jaf ja0 ja4 jaP jaw jaI jaZ jaH jaS jan jaU jaE jar jaL jah jaB jaa jaz jaG jab ja2 z0_s jaq jai jaO jaA jat jau jav jaj jas jaJ jak jad jay jac jbx jbC Q C0 _ _ _ jcP l1 l2 hP hD hS (lv_sub hl [1, 2] rfl) hw
    · have hw := hw.2 c3
      refine lv_aload_n hx hb (qaa qmc 14 rfl) rfl (lv_at hl 0 rfl) ?_
      refine va_get (D := (dC, dI)) (ci := 11) (v := .ref jaW) (C := RX11) (T := TX11) (N := 55) hx hb hts qIU hown hK hP 0 rfl rfl 9 (by decide) (hts _ q3J) (fun _ h9 => h9) rfl (qaa qmc 15 rfl) ?_
      refine lv_iload_n hx hb (qaa qjH 0 rfl) rfl (lv_at hl 3 rfl) ?_
      obtain ⟨hi9, hw⟩ := hw
      refine va_iald hx hb hK hP 1 1 rfl rfl hi9 (qaa qjH 1 rfl) ?_
      refine lv_topi (fun x4 ex4 => ?_)
      have hw := hw x4 ex4
      obtain ⟨hCc, hPc, hDc, hFc⟩ := qac (ws' := []) hP hD hS hA [] (by decide +kernel) rfl
      refine va_calli (va_runS (As := [.int x4]) (rest := []) ⟨hx, hb, hml, hown, hts⟩ (q7c l dC dI cyB cyI cyJ cyP H.size x4 hw) (va_cwS 1 hts gX11_word_X11_isSmall rfl rfl rfl (by decide +kernel) ⟨nbq rfl, nbq rfl⟩) ⟨qab, qae hPc hK hDc hNw⟩ rfl rfl hl.1 rfl (lv_room (nbq rfl)) (qaa qjH 2 rfl) ⟨nbq rfl, nbq rfl⟩) hS (fun q _ h => hFc q h) hFc (fun r5 u t H1 locs ht hvm hw hB hz1 hk1 hS => ?_)
      obtain ⟨hP1, hK1, hD1⟩ := hB
      rw [ht] at hP1
      obtain ⟨hP, hD⟩ := qah (wr := (qnU a0 jaX jaF jaD jbx jcP jbf jaM jaY jap jaW jal jam jax jao ja6 jaV ja8 jae jag jaf ja0 ja4 jaP jaw jaI jaZ jaH jaS jan jaU jaE jar jaL jah jaB jaa jaz jaG jab ja2 z0_s jaq jai jaO jaA jat jau jav jaj jas jaJ jak jad jay jac jaW cyI jbC)) (w1 := []) (wn := (qnU a0 jaX jaF jaD jbx jcP jbf jaM jaY jap jaW jal jam jax jao ja6 jaV ja8 jae jag jaf ja0 ja4 jaP jaw jaI jaZ jaH jaS jan jaU jaE jar jaL jah jaB jaa jaz jaG jab ja2 z0_s jaq jai jaO jaA jat jau jav jaj jas jaJ jak jad jay jac jaW cyI jbC)) hP hD [] [0, 1] hCc rfl (by decide +kernel) (by decide +kernel) rfl hk1 hFc hP1 hD1
      generalize H1 = H at hP hS ⊢
      refine lv_if_eq (tgt := 67) hx hb (qaa qjH 3 rfl) (by decide) (fun c6 => ?_) (fun c6 => ?_)
      · have hw := hw.1 c6
        exact q8h dC dI cyB cyI cyJ cyP a0 jaW jaX jaF jaD jbf jaM jaY jap jal jam jax jao ja6 jaV ja8 jae jag jaf ja0 ja4 jaP jaw jaI jaZ jaH jaS jan jaU jaE jar jaL jah jaB jaa jaz jaG jab ja2 z0_s jaq jai jaO jaA jat jau jav jaj jas jaJ jak jad jay jac jbx jbC Q C0 _ _ _ jcP l1 l2 hP hD hS (lv_sub hl [1, 2] rfl) hw
      · have hw := hw.2 c6
        refine lv_iload_n hx hb (qaa qjH 4 rfl) rfl (lv_at hl 2 rfl) ?_
        refine lv_bipush (v := 6) hx hb (qaa qjH 5 rfl) (by decide) ?_
        refine lv_icmp_ge (tgt := 56) hx hb (qaa qjH 6 rfl) (by decide) (fun c7 => ?_) (fun c7 => ?_)
        · have hw := hw.1 c7
          refine lv_iconst (v := 0) hx hb (qaa qk9 2 rfl) (by decide) ?_
          exact q7u dC dI cyB cyI cyJ cyP a0 jaW jaX jaF jaD jbf jaM jaY jap jal jam jax jao ja6 jaV ja8 jae jag jaf ja0 ja4 jaP jaw jaI jaZ jaH jaS jan jaU jaE jar jaL jah jaB jaa jaz jaG jab ja2 z0_s jaq jai jaO jaA jat jau jav jaj jas jaJ jak jad jay jac jbx jbC Q (qxD jbx jbC Q n) ih C0 _ _ _ jcP l2 l3 0 hP hD hS (lv_sub hl [0, 2, 3] rfl) hw
        · have hw := hw.2 c7
          refine lv_iload_n hx hb (qaa qjH 7 rfl) rfl (lv_at hl 1 rfl) ?_
          refine lv_iconst (v := 5) hx hb (qaa qjH 8 rfl) (by decide) ?_
          refine lv_ishl hx hb (qaa qjH 9 rfl) ?_
          refine lv_aload_n hx hb (qaa qjH 10 rfl) rfl (lv_at hl 0 rfl) ?_
          refine va_get (D := (dC, dI)) (ci := 11) (v := .ref jaW) (C := RX11) (T := TX11) (N := 55) hx hb hts qIU hown hK hP 0 rfl rfl 9 (by decide) (hts _ q3J) (fun _ h9 => h9) rfl (qaa qjH 11 rfl) ?_
          refine lv_iload_n hx hb (qaa qjH 12 rfl) rfl (lv_at hl 3 rfl) ?_
          obtain ⟨hi9, hw⟩ := hw
          refine va_iald hx hb hK hP 1 1 rfl rfl hi9 (qaa qjH 13 rfl) ?_
          refine lv_topi (fun x8 ex8 => ?_)
          have hw := hw x8 ex8
          refine lv_bipush (v := 96) hx hb (qaa qjH 14 rfl) (by decide) ?_
          refine lv_isub hx hb (qaa qjH 15 rfl) ?_
          refine lv_ior hx hb (qaa qk9 0 rfl) ?_
          refine lv_goto (tgt := 57) hx hb (qaa qk9 1 rfl) (by decide) ?_
          exact q7u dC dI cyB cyI cyJ cyP a0 jaW jaX jaF jaD jbf jaM jaY jap jal jam jax jao ja6 jaV ja8 jae jag jaf ja0 ja4 jaP jaw jaI jaZ jaH jaS jan jaU jaE jar jaL jah jaB jaa jaz jaG jab ja2 z0_s jaq jai jaO jaA jat jau jav jaj jas jaJ jak jad jay jac jbx jbC Q (qxD jbx jbC Q n) ih C0 _ _ _ jcP l2 l3 ((l1 <<< (5 &&& 31)) ||| (x8 - 96)) hP hD hS (lv_sub hl [0, 2, 3] rfl) hw
set_option maxHeartbeats 4000000 in
set_option maxRecDepth 100000 in
theorem qBW (l : Launch) (dC : Nat → ClassId) (dI : Nat → Nat → Nat) (cyB cyI cyJ cyP : ClassId) (a0 jaW sz : Nat) (jaX jaF jaD jbf jaM jaY jap jal jam jax jao ja6 jaV ja8 jae jag jaf ja0 ja4 jaP jaw jaI jaZ jaH jaS jan jaU jaE jar jaL jah jaB jaa jaz jaG jab ja2 z0_s jaq jai jaO jaA jat jau jav jaj jas jaJ jak jad jay jac : Value) (jbx : Int32) (jbC : NI) (jcP : Int32) {Q : Int32 → Int32 → Prop} (hw : quM jbx jbC jcP Q) : Met l yX11_word wsX11_word ({ frames := 1, cells := 0, slots := 0, locals := 20 }) (va_Pc [.ref a0] (cPc (dC, dI) (kT cyB cyI cyJ cyP) (qnU a0 jaX jaF jaD jbx jcP jbf jaM jaY jap jaW jal jam jax jao ja6 jaV ja8 jae jag jaf ja0 ja4 jaP jaw jaI jaZ jaH jaS jan jaU jaE jar jaL jah jaB jaa jaz jaG jab ja2 z0_s jaq jai jaO jaA jat jau jav jaj jas jaJ jak jad jay jac jaW cyI jbC) sz)) (va_Qi (fun (r u : Int32) => Q r u) (cB (dC, dI) (kT cyB cyI cyJ cyP) (va_A (qnU a0 jaX jaF jaD jbx jcP jbf jaM jaY jap jaW jal jam jax jao ja6 jaV ja8 jae jag jaf ja0 ja4 jaP jaw jaI jaZ jaH jaS jan jaU jaE jar jaL jah jaB jaa jaz jaG jab ja2 z0_s jaq jai jaO jaA jat jau jav jaj jas jaJ jak jad jay jac jaW cyI jbC) sz) (fun u : Int32 => ((qnU a0 jaX jaF jaD jbx u jbf jaM jaY jap jaW jal jam jax jao ja6 jaV ja8 jae jag jaf ja0 ja4 jaP jaw jaI jaZ jaH jaS jan jaU jaE jar jaL jah jaB jaa jaz jaG jab ja2 z0_s jaq jai jaO jaA jat jau jav jaj jas jaJ jak jad jay jac jaW cyI jbC) : va_W))) (va_A (qnU a0 jaX jaF jaD jbx jcP jbf jaM jaY jap jaW jal jam jax jao ja6 jaV ja8 jae jag jaf ja0 ja4 jaP jaw jaI jaZ jaH jaS jan jaU jaE jar jaL jah jaB jaa jaz jaG jab ja2 z0_s jaq jai jaO jaA jat jau jav jaj jas jaJ jak jad jay jac jaW cyI jbC) sz)) 0 0 (va_A (qnU a0 jaX jaF jaD jbx jcP jbf jaM jaY jap jaW jal jam jax jao ja6 jaV ja8 jae jag jaf ja0 ja4 jaP jaw jaI jaZ jaH jaS jan jaU jaE jar jaL jah jaB jaa jaz jaG jab ja2 z0_s jaq jai jaO jaA jat jau jav jaj jas jaJ jak jad jay jac jaW cyI jbC) sz) := by
  refine Met.ofW (cc := cX11_word) (maxL := 4) (ret := (some .int)) (by decide) rfl ?_
  intro p e s m args below meth c s₁ B hml hv
  obtain ⟨rfl, hsz, hP, hK, hD0, hNw⟩ := hv
  have hx := B.exec
  have hb := B.bytes
  have hr := B.returns
  have hts := atoms_spec (ws := wsX11_word) B.pre
  have hown : s.vm.findClass RX11 = some m.cls := findClass_of_methodNamed B.named
  have hlocks := B.notSynchronized
  subst hsz
  have hD := hD0.self (sz := s.heap.size)
  generalize hAe : va_A (qnU a0 jaX jaF jaD jbx jcP jbf jaM jaY jap jaW jal jam jax jao ja6 jaV ja8 jae jag jaf ja0 ja4 jaP jaw jaI jaZ jaH jaS jan jaU jaE jar jaL jah jaB jaa jaz jaG jab ja2 z0_s jaq jai jaO jaA jat jau jav jaj jas jaJ jak jad jay jac jaW cyI jbC) s.heap.size = A at hD ⊢
  have hA : ∀ q : Nat, s.heap.size ≤ q → A q := fun q h => by rw [← hAe]; exact Or.inr h
  have hS : va_S A s.heap s.heap [] := va_S.rf
  have hP : va_P (dC, dI) vwCl (qnU a0 jaX jaF jaD jbx jcP jbf jaM jaY jap jaW jal jam jax jao ja6 jaV ja8 jae jag jaf ja0 ja4 jaP jaw jaI jaZ jaH jaS jan jaU jaE jar jaL jah jaB jaa jaz jaG jab ja2 z0_s jaq jai jaO jaA jat jau jav jaj jas jaJ jak jad jay jac jaW cyI jbC) s.heap := hP
  have hl := lv_entry ([.ref a0]) (n := 4) (nbq rfl)
  rw [lg_entry_eq]
  generalize (lg_sl ([.ref a0]) ++ List.replicate (4 - (lg_sl ([.ref a0])).length) Slot.unset).toArray = ls at hl ⊢
  have hl : lv_has ls 4 [(0, .ref a0)] := hl
  have C0 : cfx p s m _ meth c cX11_word (some .int) wsX11_word RX11 4 A (dC, dI) (kT cyB cyI cyJ cyP) := ⟨hx, hb, hr, hts, hown, hlocks, hml, hA, hK, hNw⟩
  clear hAe
  obtain ⟨H, hH⟩ : ∃ H, H = s.heap := ⟨_, rfl⟩
  rw [← hH] at hP ⊢
  have hS : va_S A s.heap H [] := by rw [hH]; exact va_S.rf
  have hS := hS
  refine lv_aload_n hx hb (qaa qmc 0 rfl) rfl (lv_at hl 0 rfl) ?_
  obtain ⟨hCc, hPc, hDc, hFc⟩ := qac (ws' := (qnU a0 jaX jaF jaD jbx jcP jbf jaM jaY jap jaW jal jam jax jao ja6 jaV ja8 jae jag jaf ja0 ja4 jaP jaw jaI jaZ jaH jaS jan jaU jaE jar jaL jah jaB jaa jaz jaG jab ja2 z0_s jaq jai jaO jaA jat jau jav jaj jas jaJ jak jad jay jac jaW cyI jbC)) hP hD hS hA [0, 1] (by decide +kernel) rfl
  refine va_calli (va_runV (As := []) (rest := []) ⟨hx, hb, hml, hown, hts⟩ (qeS l dC dI cyB cyI cyJ cyP a0 jaW H.size (jaX) (jaF) (jaD) (jbf) (jaM) (jaY) (jap) (jal) (jam) (jax) (jao) (ja6) (jaV) (ja8) (jae) (jag) (jaf) (ja0) (ja4) (jaP) (jaw) (jaI) (jaZ) (jaH) (jaS) (jan) (jaU) (jaE) (jar) (jaL) (jah) (jaB) (jaa) (jaz) (jaG) (jab) (ja2) (z0_s) (jaq) (jai) (jaO) (jaA) (jat) (jau) (jav) (jaj) (jas) (jaJ) (jak) (jad) (jay) (jac) jbx jbC jcP hw) (cwV 0 hts gX11_word_X11_here rfl rfl rfl (by decide +kernel) ⟨nbq rfl, nbq rfl⟩) ⟨qab, va_recv (q := (RX11, TX11, 55)) hK hPc (ci := 11) (q0 := 0) rfl rfl, qae hPc hK hDc hNw⟩ rfl rfl hl.1 rfl (lv_room (nbq rfl)) (qaa qmc 1 rfl) ⟨nbq rfl, nbq rfl⟩) hS (fun q _ h => hFc q h) hFc (fun r2 u t H1 locs ht hvm hw hB hz1 hk1 hS => ?_)
  obtain ⟨x1, rfl⟩ : ∃ z, z = u := ⟨_, rfl⟩
  obtain ⟨hP1, hK1, hD1⟩ := hB
  rw [ht] at hP1
  obtain ⟨hP, hD⟩ := qah (wr := []) (w1 := (qnU a0 jaX jaF jaD jbx x1 jbf jaM jaY jap jaW jal jam jax jao ja6 jaV ja8 jae jag jaf ja0 ja4 jaP jaw jaI jaZ jaH jaS jan jaU jaE jar jaL jah jaB jaa jaz jaG jab ja2 z0_s jaq jai jaO jaA jat jau jav jaj jas jaJ jak jad jay jac jaW cyI jbC)) (wn := (qnU a0 jaX jaF jaD jbx x1 jbf jaM jaY jap jaW jal jam jax jao ja6 jaV ja8 jae jag jaf ja0 ja4 jaP jaw jaI jaZ jaH jaS jan jaU jaE jar jaL jah jaB jaa jaz jaG jab ja2 z0_s jaq jai jaO jaA jat jau jav jaj jas jaJ jak jad jay jac jaW cyI jbC)) hP hD [0, 1] [] hCc rfl (by decide +kernel) (by decide +kernel) rfl hk1 hFc hP1 hD1
  generalize H1 = H at hP hS ⊢
  refine lv_pop hx hb (qaa qmc 2 rfl) rfl ?_
  refine lv_iconst (v := 0) hx hb (qaa qmc 3 rfl) (by decide) ?_
  refine lv_istore_n (lv' := [(1, .int 0), (0, .ref a0)]) hx hb (qaa qmc 4 rfl) rfl hl (by decide) rfl (fun ls hl => ?_)
  refine lv_iconst (v := 0) hx hb (qaa qmc 5 rfl) (by decide) ?_
  refine lv_istore_n (lv' := [(2, .int 0), (1, .int 0), (0, .ref a0)]) hx hb (qaa qmc 6 rfl) rfl hl (by decide) rfl (fun ls hl => ?_)
  refine lv_aload_n hx hb (qaa qmc 7 rfl) rfl (lv_at hl 2 rfl) ?_
  refine va_get (D := (dC, dI)) (ci := 11) (v := .int x1) (C := RX11) (T := TX11) (N := 55) hx hb hts qIU hown hK hP 0 rfl rfl 4 (by decide) (hts _ qaqw) (fun _ h9 => h9) rfl (qaa qmc 8 rfl) ?_
  refine lv_istore_n (lv' := [(3, .int x1), (2, .int 0), (1, .int 0), (0, .ref a0)]) hx hb (qaa qmc 9 rfl) rfl hl (by decide) rfl (fun ls hl => ?_)
  obtain ⟨n9, hw⟩ := hw
  exact qaEX dC dI cyB cyI cyJ cyP a0 jaW jaX jaF jaD jbf jaM jaY jap jal jam jax jao ja6 jaV ja8 jae jag jaf ja0 ja4 jaP jaw jaI jaZ jaH jaS jan jaU jaE jar jaL jah jaB jaa jaz jaG jab ja2 z0_s jaq jai jaO jaA jat jau jav jaj jas jaJ jak jad jay jac jbx jbC Q C0 n9 _ _ _ x1 0 0 x1 hP hD hS (lv_sub hl [3, 2, 1, 0] rfl) hw
theorem qys : ∀ w ∈ u_ws RX11 TX11 55, w ∈ wsX11_pass := uiM qOs qga (by decide +kernel)
theorem qE8 : (.fieldLink RX11 120 "MarchHaresModel" "at" "I" : Cond) ∈ wsX11_pass := qOs 1103 (by decide +kernel)
theorem qaqR : (.fieldLink RX11 123 "MarchHaresModel" "size" "I" : Cond) ∈ wsX11_pass := qOs 1153 (by decide +kernel)
theorem qavR : (.fieldLink RX11 20 "MarchHaresModel" "tape" "[I" : Cond) ∈ wsX11_pass := qOs 400 (by decide +kernel)
set_option maxHeartbeats 4000000 in
set_option maxRecDepth 100000 in
theorem qaSD {p : Program} {l : Launch} {e : Env} {s : State} {m : MethodId} {args : Array Value} {below : List Frame} {meth : Method} {c : Code} {A : Nat → Prop} (dC : Nat → ClassId) (dI : Nat → Nat → Nat) (cyB cyI cyJ cyP : ClassId) (a0 jaW : Nat) (jaX jaF jaD jbf jaM jaY jap jal jam jax jao ja6 jaV ja8 jae jag jaf ja0 ja4 jaP jaw jaI jaZ jaH jaS jan jaU jaE jar jaL jah jaB jaa jaz jaG jab ja2 z0_s jaq jai jaO jaA jat jau jav jaj jas jaJ jak jad jay jac : Value) (jbx : Int32) (jbC : NI) (Q : Int32 → Prop) (C0 : cfx p s m args meth c cX11_pass none wsX11_pass RX11 1 A (dC, dI) (kT cyB cyI cyJ cyP)) : ∀ (n : Nat) (H : Heap) (locs : List Loc) (ls : Array Slot) (jcP : Int32), va_P (dC, dI) vwCl (qnU a0 jaX jaF jaD jbx jcP jbf jaM jaY jap jaW jal jam jax jao ja6 jaV ja8 jae jag jaf ja0 ja4 jaP jaw jaI jaZ jaH jaS jan jaU jaE jar jaL jah jaB jaa jaz jaG jab ja2 z0_s jaq jai jaO jaA jat jau jav jaj jas jaJ jak jad jay jac jaW cyI jbC) H → va_D A (qnU a0 jaX jaF jaD jbx jcP jbf jaM jaY jap jaW jal jam jax jao ja6 jaV ja8 jae jag jaf ja0 ja4 jaP jaw jaI jaZ jaH jaS jan jaU jaE jar jaL jah jaB jaa jaz jaG jab ja2 z0_s jaq jai jaO jaA jat jau jav jaj jas jaJ jak jad jay jac jaW cyI jbC) → va_S A s.heap H locs → lv_has ls 1 [(0, .ref a0)] → qNV jbx jbC Q n jcP → W p l e (headSpec wsX11_pass ({ frames := 1, cells := 0, slots := 0, locals := 20 })).room s m args below meth c H locs 0 0 (MQ below (va_Qv (fun (u : Int32) => Q u) (cB (dC, dI) (kT cyB cyI cyJ cyP) A (fun u : Int32 => ((qnU a0 jaX jaF jaD jbx u jbf jaM jaY jap jaW jal jam jax jao ja6 jaV ja8 jae jag jaf ja0 ja4 jaP jaw jaI jaZ jaH jaS jan jaU jaE jar jaL jah jaB jaa jaz jaG jab ja2 z0_s jaq jai jaO jaA jat jau jav jaj jas jaJ jak jad jay jac jaW cyI jbC) : va_W))) A) args s 0 0 A) (F0 m 0 ls []) := by
  obtain ⟨hx, hb, hr, hts, hown, hlocks, hml, hA, hK, hNw⟩ := id C0
  intro n
  induction n with
  | zero => intro H locs ls jcP hP hD hS hl hw; exact False.elim hw
  | succ n ih =>
    intro H locs ls jcP hP hD hS hl hw
    refine lv_aload_n hx hb (qaa qmk 0 rfl) rfl (lv_at hl 0 rfl) ?_
    refine va_get (D := (dC, dI)) (ci := 11) (v := .int jcP) (C := RX11) (T := TX11) (N := 55) hx hb hts qys hown hK hP 0 rfl rfl 4 (by decide) (hts _ qE8) (fun _ h9 => h9) rfl (qaa qmk 1 rfl) ?_
    refine lv_aload_n hx hb (qaa qmk 2 rfl) rfl (lv_at hl 0 rfl) ?_
    refine va_get (D := (dC, dI)) (ci := 11) (v := .int jbx) (C := RX11) (T := TX11) (N := 55) hx hb hts qys hown hK hP 0 rfl rfl 3 (by decide) (hts _ qaqR) (fun _ h9 => h9) rfl (qaa qmk 3 rfl) ?_
    refine lv_icmp_ge (tgt := 39) hx hb (qaa qmk 4 rfl) (by decide) (fun c1 => ?_) (fun c1 => ?_)
    · have hw := hw.1 c1
      exact ((W.vret hx hb hr (fun t ht hW => ⟨⟨(jcP), rfl, hw, by rw [ht]; exact hP, va_K.moved hW.alike hK, hD⟩, hS.F ht⟩) hS.2.2 (qaa qDQ 3 rfl)))
    · have hw := hw.2 c1
      refine lv_aload_n hx hb (qaa qmk 5 rfl) rfl (lv_at hl 0 rfl) ?_
      refine va_get (D := (dC, dI)) (ci := 11) (v := .ref jaW) (C := RX11) (T := TX11) (N := 55) hx hb hts qys hown hK hP 0 rfl rfl 9 (by decide) (hts _ qavR) (fun _ h9 => h9) rfl (qaa qmk 6 rfl) ?_
      refine lv_aload_n hx hb (qaa qmk 7 rfl) rfl (lv_at hl 0 rfl) ?_
      refine va_get (D := (dC, dI)) (ci := 11) (v := .int jcP) (C := RX11) (T := TX11) (N := 55) hx hb hts qys hown hK hP 0 rfl rfl 4 (by decide) (hts _ qE8) (fun _ h9 => h9) rfl (qaa qmk 8 rfl) ?_
      obtain ⟨hi9, hw⟩ := hw
      refine va_iald hx hb hK hP 1 1 rfl rfl hi9 (qaa qmk 9 rfl) ?_
      refine lv_topi (fun x2 ex2 => ?_)
      have hw := hw x2 ex2
      obtain ⟨hCc, hPc, hDc, hFc⟩ := qac (ws' := []) hP hD hS hA [] (by decide +kernel) rfl
      refine va_calli (va_runS (As := [.int x2]) (rest := []) ⟨hx, hb, hml, hown, hts⟩ (q7c l dC dI cyB cyI cyJ cyP H.size x2 hw) (va_cwS 1 hts gX11_pass_X11_isSmall rfl rfl rfl (by decide +kernel) ⟨nbq rfl, nbq rfl⟩) ⟨qab, qae hPc hK hDc hNw⟩ rfl rfl hl.1 rfl (lv_room (nbq rfl)) (qaa qmk 10 rfl) ⟨nbq rfl, nbq rfl⟩) hS (fun q _ h => hFc q h) hFc (fun r3 u t H1 locs ht hvm hw hB hz1 hk1 hS => ?_)
      obtain ⟨hP1, hK1, hD1⟩ := hB
      rw [ht] at hP1
      obtain ⟨hP, hD⟩ := qah (wr := (qnU a0 jaX jaF jaD jbx jcP jbf jaM jaY jap jaW jal jam jax jao ja6 jaV ja8 jae jag jaf ja0 ja4 jaP jaw jaI jaZ jaH jaS jan jaU jaE jar jaL jah jaB jaa jaz jaG jab ja2 z0_s jaq jai jaO jaA jat jau jav jaj jas jaJ jak jad jay jac jaW cyI jbC)) (w1 := []) (wn := (qnU a0 jaX jaF jaD jbx jcP jbf jaM jaY jap jaW jal jam jax jao ja6 jaV ja8 jae jag jaf ja0 ja4 jaP jaw jaI jaZ jaH jaS jan jaU jaE jar jaL jah jaB jaa jaz jaG jab ja2 z0_s jaq jai jaO jaA jat jau jav jaj jas jaJ jak jad jay jac jaW cyI jbC)) hP hD [] [0, 1] hCc rfl (by decide +kernel) (by decide +kernel) rfl hk1 hFc hP1 hD1
      generalize H1 = H at hP hS ⊢
      refine lv_if_eq (tgt := 39) hx hb (qaa qmk 11 rfl) (by decide) (fun c4 => ?_) (fun c4 => ?_)
      · have hw := hw.1 c4
        exact ((W.vret hx hb hr (fun t ht hW => ⟨⟨(jcP), rfl, hw, by rw [ht]; exact hP, va_K.moved hW.alike hK, hD⟩, hS.F ht⟩) hS.2.2 (qaa qDQ 3 rfl)))
      · have hw := hw.2 c4
        refine lv_aload_n hx hb (qaa qmk 12 rfl) rfl (lv_at hl 0 rfl) ?_
        refine lv_dup hx hb (qaa qmk 13 rfl) rfl ?_
        refine va_get (D := (dC, dI)) (ci := 11) (v := .int jcP) (C := RX11) (T := TX11) (N := 55) hx hb hts qys hown hK hP 0 rfl rfl 4 (by decide) (hts _ qE8) (fun _ h9 => h9) rfl (qaa qmk 14 rfl) ?_
        refine lv_iconst (v := 1) hx hb (qaa qmk 15 rfl) (by decide) ?_
        refine lv_iadd hx hb (qaa qDQ 0 rfl) ?_
        refine lv_topi (fun x5 ex5 => ?_)
        have hw := hw x5 ex5
        refine va_put (D := (dC, dI)) (ci := 11) (v := .int x5) (ty := .int) (C := RX11) (T := TX11) (N := 55) hx hb hts qys tyX11 tyX11_ok nmX11 hown hK hP hD hS 0 rfl rfl 4 (by decide) (hts _ qE8) (fun _ h9 => h9) rfl (by decide +kernel) rfl rfl (nbq rfl) (qaa qDQ 1 rfl) (fun H locs hP hD hS => ?_)
        have hP : va_P (dC, dI) vwCl (qnU a0 jaX jaF jaD jbx x5 jbf jaM jaY jap jaW jal jam jax jao ja6 jaV ja8 jae jag jaf ja0 ja4 jaP jaw jaI jaZ jaH jaS jan jaU jaE jar jaL jah jaB jaa jaz jaG jab ja2 z0_s jaq jai jaO jaA jat jau jav jaj jas jaJ jak jad jay jac jaW cyI jbC) H := hP
        have hD : va_D A (qnU a0 jaX jaF jaD jbx x5 jbf jaM jaY jap jaW jal jam jax jao ja6 jaV ja8 jae jag jaf ja0 ja4 jaP jaw jaI jaZ jaH jaS jan jaU jaE jar jaL jah jaB jaa jaz jaG jab ja2 z0_s jaq jai jaO jaA jat jau jav jaj jas jaJ jak jad jay jac jaW cyI jbC) := hD
        refine lv_goto (tgt := 0) hx hb (qaa qDQ 2 rfl) (by decide) ?_
        exact ih _ _ _ x5 hP hD hS (lv_sub hl [0] rfl) hw
set_option maxHeartbeats 4000000 in
set_option maxRecDepth 100000 in
theorem qzA (l : Launch) (dC : Nat → ClassId) (dI : Nat → Nat → Nat) (cyB cyI cyJ cyP : ClassId) (a0 jaW sz : Nat) (jaX jaF jaD jbf jaM jaY jap jal jam jax jao ja6 jaV ja8 jae jag jaf ja0 ja4 jaP jaw jaI jaZ jaH jaS jan jaU jaE jar jaL jah jaB jaa jaz jaG jab ja2 z0_s jaq jai jaO jaA jat jau jav jaj jas jaJ jak jad jay jac : Value) (jbx : Int32) (jbC : NI) (jcP : Int32) {Q : Int32 → Prop} (hw : quw jbx jbC jcP Q) : Met l yX11_pass wsX11_pass ({ frames := 1, cells := 0, slots := 0, locals := 20 }) (va_Pc [.ref a0] (cPc (dC, dI) (kT cyB cyI cyJ cyP) (qnU a0 jaX jaF jaD jbx jcP jbf jaM jaY jap jaW jal jam jax jao ja6 jaV ja8 jae jag jaf ja0 ja4 jaP jaw jaI jaZ jaH jaS jan jaU jaE jar jaL jah jaB jaa jaz jaG jab ja2 z0_s jaq jai jaO jaA jat jau jav jaj jas jaJ jak jad jay jac jaW cyI jbC) sz)) (va_Qv (fun (u : Int32) => Q u) (cB (dC, dI) (kT cyB cyI cyJ cyP) (va_A (qnU a0 jaX jaF jaD jbx jcP jbf jaM jaY jap jaW jal jam jax jao ja6 jaV ja8 jae jag jaf ja0 ja4 jaP jaw jaI jaZ jaH jaS jan jaU jaE jar jaL jah jaB jaa jaz jaG jab ja2 z0_s jaq jai jaO jaA jat jau jav jaj jas jaJ jak jad jay jac jaW cyI jbC) sz) (fun u : Int32 => ((qnU a0 jaX jaF jaD jbx u jbf jaM jaY jap jaW jal jam jax jao ja6 jaV ja8 jae jag jaf ja0 ja4 jaP jaw jaI jaZ jaH jaS jan jaU jaE jar jaL jah jaB jaa jaz jaG jab ja2 z0_s jaq jai jaO jaA jat jau jav jaj jas jaJ jak jad jay jac jaW cyI jbC) : va_W))) (va_A (qnU a0 jaX jaF jaD jbx jcP jbf jaM jaY jap jaW jal jam jax jao ja6 jaV ja8 jae jag jaf ja0 ja4 jaP jaw jaI jaZ jaH jaS jan jaU jaE jar jaL jah jaB jaa jaz jaG jab ja2 z0_s jaq jai jaO jaA jat jau jav jaj jas jaJ jak jad jay jac jaW cyI jbC) sz)) 0 0 (va_A (qnU a0 jaX jaF jaD jbx jcP jbf jaM jaY jap jaW jal jam jax jao ja6 jaV ja8 jae jag jaf ja0 ja4 jaP jaw jaI jaZ jaH jaS jan jaU jaE jar jaL jah jaB jaa jaz jaG jab ja2 z0_s jaq jai jaO jaA jat jau jav jaj jas jaJ jak jad jay jac jaW cyI jbC) sz) := by
  refine Met.ofW (cc := cX11_pass) (maxL := 1) (ret := none) (by decide) rfl ?_
  intro p e s m args below meth c s₁ B hml hv
  obtain ⟨rfl, hsz, hP, hK, hD0, hNw⟩ := hv
  have hx := B.exec
  have hb := B.bytes
  have hr := B.returns
  have hts := atoms_spec (ws := wsX11_pass) B.pre
  have hown : s.vm.findClass RX11 = some m.cls := findClass_of_methodNamed B.named
  have hlocks := B.notSynchronized
  subst hsz
  have hD := hD0.self (sz := s.heap.size)
  generalize hAe : va_A (qnU a0 jaX jaF jaD jbx jcP jbf jaM jaY jap jaW jal jam jax jao ja6 jaV ja8 jae jag jaf ja0 ja4 jaP jaw jaI jaZ jaH jaS jan jaU jaE jar jaL jah jaB jaa jaz jaG jab ja2 z0_s jaq jai jaO jaA jat jau jav jaj jas jaJ jak jad jay jac jaW cyI jbC) s.heap.size = A at hD ⊢
  have hA : ∀ q : Nat, s.heap.size ≤ q → A q := fun q h => by rw [← hAe]; exact Or.inr h
  have hS : va_S A s.heap s.heap [] := va_S.rf
  have hP : va_P (dC, dI) vwCl (qnU a0 jaX jaF jaD jbx jcP jbf jaM jaY jap jaW jal jam jax jao ja6 jaV ja8 jae jag jaf ja0 ja4 jaP jaw jaI jaZ jaH jaS jan jaU jaE jar jaL jah jaB jaa jaz jaG jab ja2 z0_s jaq jai jaO jaA jat jau jav jaj jas jaJ jak jad jay jac jaW cyI jbC) s.heap := hP
  have hl := lv_entry ([.ref a0]) (n := 1) (nbq rfl)
  rw [lg_entry_eq]
  generalize (lg_sl ([.ref a0]) ++ List.replicate (1 - (lg_sl ([.ref a0])).length) Slot.unset).toArray = ls at hl ⊢
  have hl : lv_has ls 1 [(0, .ref a0)] := hl
  have C0 : cfx p s m _ meth c cX11_pass none wsX11_pass RX11 1 A (dC, dI) (kT cyB cyI cyJ cyP) := ⟨hx, hb, hr, hts, hown, hlocks, hml, hA, hK, hNw⟩
  clear hAe
  obtain ⟨H, hH⟩ : ∃ H, H = s.heap := ⟨_, rfl⟩
  rw [← hH] at hP ⊢
  have hS : va_S A s.heap H [] := by rw [hH]; exact va_S.rf
  have hS := hS
  obtain ⟨n9, hw⟩ := hw
  exact qaSD dC dI cyB cyI cyJ cyP a0 jaW jaX jaF jaD jbf jaM jaY jap jal jam jax jao ja6 jaV ja8 jae jag jaf ja0 ja4 jaP jaw jaI jaZ jaH jaS jan jaU jaE jar jaL jah jaB jaa jaz jaG jab ja2 z0_s jaq jai jaO jaA jat jau jav jaj jas jaJ jak jad jay jac jbx jbC Q C0 n9 _ _ _ jcP hP hD hS (lv_sub hl [0] rfl) hw
theorem qaac : ∀ w ∈ u_ws RX11 TX11 55, w ∈ wsX11_readHare := uiM qKN qga (by decide +kernel)
theorem q5Z : (.fieldLink RX11 160 "MarchHaresModel" "newHares" "I" : Cond) ∈ wsX11_readHare := qKN 513 (by decide +kernel)
set_option maxHeartbeats 4000000 in
set_option maxRecDepth 100000 in
theorem q2u (l : Launch) (dC : Nat → ClassId) (dI : Nat → Nat → Nat) (cyB cyI cyJ cyP : ClassId) (a0 jaW sz : Nat) (jaX jaF jaD jaY jap jal jam jax jao ja6 jaV ja8 jae jaf ja0 ja4 jaP jaw jaI jaZ jaH jaS jan jaU jaE jar jaL jah jaB jaa jaz jaG jab ja2 z0_s jaq jai jaO jaA jat jau jav jaj jas jaJ jak jad jay jac : Value) (jbx jge : Int32) (jbC : NI) (jcP jb8 jbh : Int32) {Q : Int32 → Int32 → Int32 → Int32 → Prop} (hw : qQ8 jbx jge jbC jcP jb8 jbh Q) : Met l yX11_readHare wsX11_readHare ({ frames := 2, cells := 0, slots := 0, locals := 47 }) (va_Pc [.ref a0] (cPc (dC, dI) (kT cyB cyI cyJ cyP) (qTW a0 jaX jaF jaD jbx jcP jb8 jbh jaY jap jaW jal jam jax jao ja6 jaV ja8 jae jge jaf ja0 ja4 jaP jaw jaI jaZ jaH jaS jan jaU jaE jar jaL jah jaB jaa jaz jaG jab ja2 z0_s jaq jai jaO jaA jat jau jav jaj jas jaJ jak jad jay jac jaW cyI jbC) sz)) (va_Qi (fun (r : Int32) (u : Int32 × Int32 × Int32) => Q r u.1 u.2.1 u.2.2) (cB (dC, dI) (kT cyB cyI cyJ cyP) (va_A (qTW a0 jaX jaF jaD jbx jcP jb8 jbh jaY jap jaW jal jam jax jao ja6 jaV ja8 jae jge jaf ja0 ja4 jaP jaw jaI jaZ jaH jaS jan jaU jaE jar jaL jah jaB jaa jaz jaG jab ja2 z0_s jaq jai jaO jaA jat jau jav jaj jas jaJ jak jad jay jac jaW cyI jbC) sz) (fun u : Int32 × Int32 × Int32 => ((qTW a0 jaX jaF jaD jbx u.1 u.2.1 u.2.2 jaY jap jaW jal jam jax jao ja6 jaV ja8 jae jge jaf ja0 ja4 jaP jaw jaI jaZ jaH jaS jan jaU jaE jar jaL jah jaB jaa jaz jaG jab ja2 z0_s jaq jai jaO jaA jat jau jav jaj jas jaJ jak jad jay jac jaW cyI jbC) : va_W))) (va_A (qTW a0 jaX jaF jaD jbx jcP jb8 jbh jaY jap jaW jal jam jax jao ja6 jaV ja8 jae jge jaf ja0 ja4 jaP jaw jaI jaZ jaH jaS jan jaU jaE jar jaL jah jaB jaa jaz jaG jab ja2 z0_s jaq jai jaO jaA jat jau jav jaj jas jaJ jak jad jay jac jaW cyI jbC) sz)) 0 0 (va_A (qTW a0 jaX jaF jaD jbx jcP jb8 jbh jaY jap jaW jal jam jax jao ja6 jaV ja8 jae jge jaf ja0 ja4 jaP jaw jaI jaZ jaH jaS jan jaU jaE jar jaL jah jaB jaa jaz jaG jab ja2 z0_s jaq jai jaO jaA jat jau jav jaj jas jaJ jak jad jay jac jaW cyI jbC) sz) := by
  refine Met.ofW (cc := cX11_readHare) (maxL := 1) (ret := (some .int)) (by decide) rfl ?_
  intro p e s m args below meth c s₁ B hml hv
  obtain ⟨rfl, hsz, hP, hK, hD0, hNw⟩ := hv
  have hx := B.exec
  have hb := B.bytes
  have hr := B.returns
  have hts := atoms_spec (ws := wsX11_readHare) B.pre
  have hown : s.vm.findClass RX11 = some m.cls := findClass_of_methodNamed B.named
  have hlocks := B.notSynchronized
  subst hsz
  have hD := hD0.self (sz := s.heap.size)
  generalize hAe : va_A (qTW a0 jaX jaF jaD jbx jcP jb8 jbh jaY jap jaW jal jam jax jao ja6 jaV ja8 jae jge jaf ja0 ja4 jaP jaw jaI jaZ jaH jaS jan jaU jaE jar jaL jah jaB jaa jaz jaG jab ja2 z0_s jaq jai jaO jaA jat jau jav jaj jas jaJ jak jad jay jac jaW cyI jbC) s.heap.size = A at hD ⊢
  have hA : ∀ q : Nat, s.heap.size ≤ q → A q := fun q h => by rw [← hAe]; exact Or.inr h
  have hS : va_S A s.heap s.heap [] := va_S.rf
  have hP : va_P (dC, dI) vwCl (qTW a0 jaX jaF jaD jbx jcP jb8 jbh jaY jap jaW jal jam jax jao ja6 jaV ja8 jae jge jaf ja0 ja4 jaP jaw jaI jaZ jaH jaS jan jaU jaE jar jaL jah jaB jaa jaz jaG jab ja2 z0_s jaq jai jaO jaA jat jau jav jaj jas jaJ jak jad jay jac jaW cyI jbC) s.heap := hP
  have hl := lv_entry ([.ref a0]) (n := 1) (nbq rfl)
  rw [lg_entry_eq]
  generalize (lg_sl ([.ref a0]) ++ List.replicate (1 - (lg_sl ([.ref a0])).length) Slot.unset).toArray = ls at hl ⊢
  have hl : lv_has ls 1 [(0, .ref a0)] := hl
  have C0 : cfx p s m _ meth c cX11_readHare (some .int) wsX11_readHare RX11 1 A (dC, dI) (kT cyB cyI cyJ cyP) := ⟨hx, hb, hr, hts, hown, hlocks, hml, hA, hK, hNw⟩
  clear hAe
  obtain ⟨H, hH⟩ : ∃ H, H = s.heap := ⟨_, rfl⟩
  rw [← hH] at hP ⊢
  have hS : va_S A s.heap H [] := by rw [hH]; exact va_S.rf
  have hS := hS
  refine lv_aload_n hx hb (qaa qrb 0 rfl) rfl (lv_at hl 0 rfl) ?_
  refine lv_iconst (v := 0) hx hb (qaa qrb 1 rfl) (by decide) ?_
  refine lv_aload_n hx hb (qaa qrb 2 rfl) rfl (lv_at hl 0 rfl) ?_
  refine va_get (D := (dC, dI)) (ci := 11) (v := .int jge) (C := RX11) (T := TX11) (N := 55) hx hb hts qaac hown hK hP 0 rfl rfl 18 (by decide) (hts _ q5Z) (fun _ h9 => h9) rfl (qaa qrb 3 rfl) ?_
  refine lv_iconst (v := 1) hx hb (qaa qrb 4 rfl) (by decide) ?_
  refine lv_isub hx hb (qaa qrb 5 rfl) ?_
  obtain ⟨hCc, hPc, hDc, hFc⟩ := qac (ws' := (qTW a0 jaX jaF jaD jbx jcP jb8 jbh jaY jap jaW jal jam jax jao ja6 jaV ja8 jae jge jaf ja0 ja4 jaP jaw jaI jaZ jaH jaS jan jaU jaE jar jaL jah jaB jaa jaz jaG jab ja2 z0_s jaq jai jaO jaA jat jau jav jaj jas jaJ jak jad jay jac jaW cyI jbC)) hP hD hS hA [0, 1] (by decide +kernel) rfl
  refine va_calli (va_runV (As := [.int 0, .int (jge - 1)]) (rest := []) ⟨hx, hb, hml, hown, hts⟩ (qcA l dC dI cyB cyI cyJ cyP a0 jaW H.size (jaX) (jaF) (jaD) (jaY) (jap) (jal) (jam) (jax) (jao) (ja6) (jaV) (ja8) (jae) (.int jge) (jaf) (ja0) (ja4) (jaP) (jaw) (jaI) (jaZ) (jaH) (jaS) (jan) (jaU) (jaE) (jar) (jaL) (jah) (jaB) (jaa) (jaz) (jaG) (jab) (ja2) (z0_s) (jaq) (jai) (jaO) (jaA) (jat) (jau) (jav) (jaj) (jas) (jaJ) (jak) (jad) (jay) (jac) jbx jbC jcP jb8 jbh 0 (jge - 1) hw) (cwV 2 hts gX11_readHare_X11_readNumber rfl rfl rfl (by decide +kernel) ⟨nbq rfl, nbq rfl⟩) ⟨qab, va_recv (q := (RX11, TX11, 55)) hK hPc (ci := 11) (q0 := 0) rfl rfl, qae hPc hK hDc hNw⟩ rfl rfl hl.1 rfl (lv_room (nbq rfl)) (qaa qrb 6 rfl) ⟨nbq rfl, nbq rfl⟩) hS (fun q _ h => hFc q h) hFc (fun r4 u t H1 locs ht hvm hw hB hz1 hk1 hS => ?_)
  obtain ⟨x1, x2, x3⟩ := u
  obtain ⟨hP1, hK1, hD1⟩ := hB
  rw [ht] at hP1
  obtain ⟨hP, hD⟩ := qah (wr := []) (w1 := (qTW a0 jaX jaF jaD jbx x1 x2 x3 jaY jap jaW jal jam jax jao ja6 jaV ja8 jae jge jaf ja0 ja4 jaP jaw jaI jaZ jaH jaS jan jaU jaE jar jaL jah jaB jaa jaz jaG jab ja2 z0_s jaq jai jaO jaA jat jau jav jaj jas jaJ jak jad jay jac jaW cyI jbC)) (wn := (qTW a0 jaX jaF jaD jbx x1 x2 x3 jaY jap jaW jal jam jax jao ja6 jaV ja8 jae jge jaf ja0 ja4 jaP jaw jaI jaZ jaH jaS jan jaU jaE jar jaL jah jaB jaa jaz jaG jab ja2 z0_s jaq jai jaO jaA jat jau jav jaj jas jaJ jak jad jay jac jaW cyI jbC)) hP hD [0, 1] [] hCc rfl (by decide +kernel) (by decide +kernel) rfl hk1 hFc hP1 hD1
  generalize H1 = H at hP hS ⊢
  exact ((W.iret (v := r4) hx hb hr (fun t ht hW => ⟨⟨r4, (x1, x2, x3), rfl, hw, by rw [ht]; exact hP, va_K.moved hW.alike hK, hD⟩, hS.F ht⟩) hS.2.2 (qaa qrb 7 rfl)))
theorem qRl : ∀ w ∈ u_ws RX11 TX11 55, w ∈ wsX11_readDebt := uiM qn9 qga (by decide +kernel)
theorem q56 : (.fieldLink RX11 120 "MarchHaresModel" "at" "I" : Cond) ∈ wsX11_readDebt := qn9 1103 (by decide +kernel)
theorem q9P : (.fieldLink RX11 32 "MarchHaresModel" "newDebt" "[I" : Cond) ∈ wsX11_readDebt := qn9 404 (by decide +kernel)
set_option maxHeartbeats 4000000 in
set_option maxRecDepth 100000 in
theorem qHq {p : Program} {l : Launch} {e : Env} {s : State} {m : MethodId} {args : Array Value} {below : List Frame} {meth : Method} {c : Code} {A : Nat → Prop} (dC : Nat → ClassId) (dI : Nat → Nat → Nat) (cyB cyI cyJ cyP : ClassId) (a0 jaW jdO : Nat) (jaX jaF jaD jaY jap jal jam jax ja6 jaV ja8 jae jaf ja0 ja4 jaP jaw jaI jaZ jaH jaS jan jaU jaE jar jaL jah jaB jaa jaz jaG jab ja2 z0_s jaq jai jaO jaA jat jau jav jaj jas jaJ jak jad jay jac : Value) (jbx jge : Int32) (jbC : NI) (Q : Int32 → Int32 → Int32 → NI → Prop) (C0 : cfx p s m args meth c cX11_readDebt none wsX11_readDebt RX11 5 A (dC, dI) (kT cyB cyI cyJ cyP)) : ∀ (H : Heap) (locs : List Loc) (ls : Array Slot) (jcP jb8 jbh : Int32) (jil : NI) (l1 l3 : Int32), va_P (dC, dI) vwCl (qzM a0 jaX jaF jaD jbx jcP jb8 jbh jaY jap jaW jal jam jax jdO ja6 jaV ja8 jae jge jaf ja0 ja4 jaP jaw jaI jaZ jaH jaS jan jaU jaE jar jaL jah jaB jaa jaz jaG jab ja2 z0_s jaq jai jaO jaA jat jau jav jaj jas jaJ jak jad jay jac jaW cyI jbC jdO cyI jil) H → va_D A (qzM a0 jaX jaF jaD jbx jcP jb8 jbh jaY jap jaW jal jam jax jdO ja6 jaV ja8 jae jge jaf ja0 ja4 jaP jaw jaI jaZ jaH jaS jan jaU jaE jar jaL jah jaB jaa jaz jaG jab ja2 z0_s jaq jai jaO jaA jat jau jav jaj jas jaJ jak jad jay jac jaW cyI jbC jdO cyI jil) → va_S A s.heap H locs → lv_has ls 5 [(0, .ref a0), (1, .int l1), (3, .int l3)] → qwJ jbx jge jbC Q jcP jb8 jbh jil l1 l3 → W p l e (headSpec wsX11_readDebt ({ frames := 3, cells := 0, slots := 0, locals := 67 })).room s m args below meth c H locs 0 0 (MQ below (va_Qv (fun (u : Int32 × Int32 × Int32 × NI) => Q u.1 u.2.1 u.2.2.1 u.2.2.2) (cB (dC, dI) (kT cyB cyI cyJ cyP) A (fun u : Int32 × Int32 × Int32 × NI => ((qzM a0 jaX jaF jaD jbx u.1 u.2.1 u.2.2.1 jaY jap jaW jal jam jax jdO ja6 jaV ja8 jae jge jaf ja0 ja4 jaP jaw jaI jaZ jaH jaS jan jaU jaE jar jaL jah jaB jaa jaz jaG jab ja2 z0_s jaq jai jaO jaA jat jau jav jaj jas jaJ jak jad jay jac jaW cyI jbC jdO cyI u.2.2.2) : va_W))) A) args s 0 0 A) (F0 m 38 ls []) := by
  obtain ⟨hx, hb, hr, hts, hown, hlocks, hml, hA, hK, hNw⟩ := id C0
  intro H locs ls jcP jb8 jbh jil l1 l3 hP hD hS hl hw
  refine lv_aload_n hx hb (qaa qdn 6 rfl) rfl (lv_at hl 0 rfl) ?_
  refine lv_iconst (v := 0) hx hb (qaa qdn 7 rfl) (by decide) ?_
  refine lv_bipush (v := 99) hx hb (qaa qdn 8 rfl) (by decide) ?_
  obtain ⟨hCc, hPc, hDc, hFc⟩ := qac (ws' := (q1J a0 jaX jaF jaD jbx jcP jb8 jbh jaY jap jaW jal jam jax jdO ja6 jaV ja8 jae jge jaf ja0 ja4 jaP jaw jaI jaZ jaH jaS jan jaU jaE jar jaL jah jaB jaa jaz jaG jab ja2 z0_s jaq jai jaO jaA jat jau jav jaj jas jaJ jak jad jay jac jaW cyI jbC)) hP hD hS hA [0, 1] (by decide +kernel) rfl
  refine va_calli (va_runV (As := [.int 0, .int 99]) (rest := []) ⟨hx, hb, hml, hown, hts⟩ (qcA l dC dI cyB cyI cyJ cyP a0 jaW H.size (jaX) (jaF) (jaD) (jaY) (jap) (jal) (jam) (jax) (.ref jdO) (ja6) (jaV) (ja8) (jae) (.int jge) (jaf) (ja0) (ja4) (jaP) (jaw) (jaI) (jaZ) (jaH) (jaS) (jan) (jaU) (jaE) (jar) (jaL) (jah) (jaB) (jaa) (jaz) (jaG) (jab) (ja2) (z0_s) (jaq) (jai) (jaO) (jaA) (jat) (jau) (jav) (jaj) (jas) (jaJ) (jak) (jad) (jay) (jac) jbx jbC jcP jb8 jbh 0 99 hw) (cwV 2 hts gX11_readDebt_X11_readNumber rfl rfl rfl (by decide +kernel) ⟨nbq rfl, nbq rfl⟩) ⟨qab, va_recv (q := (RX11, TX11, 55)) hK hPc (ci := 11) (q0 := 0) rfl rfl, qae hPc hK hDc hNw⟩ rfl rfl hl.1 rfl (lv_room (nbq rfl)) (qaa qdn 9 rfl) ⟨nbq rfl, nbq rfl⟩) hS (fun q _ h => hFc q h) hFc (fun r19 u t H1 locs ht hvm hw hB hz1 hk1 hS => ?_)
  obtain ⟨x16, x17, x18⟩ := u
  obtain ⟨hP1, hK1, hD1⟩ := hB
  rw [ht] at hP1
  obtain ⟨hP, hD⟩ := qad (wr := (qaQy jdO cyI jil)) (w1 := (q1J a0 jaX jaF jaD jbx x16 x17 x18 jaY jap jaW jal jam jax jdO ja6 jaV ja8 jae jge jaf ja0 ja4 jaP jaw jaI jaZ jaH jaS jan jaU jaE jar jaL jah jaB jaa jaz jaG jab ja2 z0_s jaq jai jaO jaA jat jau jav jaj jas jaJ jak jad jay jac jaW cyI jbC)) (wn := (qzM a0 jaX jaF jaD jbx x16 x17 x18 jaY jap jaW jal jam jax jdO ja6 jaV ja8 jae jge jaf ja0 ja4 jaP jaw jaI jaZ jaH jaS jan jaU jaE jar jaL jah jaB jaa jaz jaG jab ja2 z0_s jaq jai jaO jaA jat jau jav jaj jas jaJ jak jad jay jac jaW cyI jbC jdO cyI jil)) hP hD [0, 1] [2] [1, 2, 0] hCc rfl (by decide +kernel) (by decide +kernel) (by decide +kernel) rfl hk1 hFc hP1 hD1
  generalize H1 = H at hP hS ⊢
  refine lv_istore (lv' := [(4, .int r19), (0, .ref a0), (1, .int l1), (3, .int l3)]) hx hb (qaa qdn 10 rfl) hl (by decide) rfl (fun ls hl => ?_)
  refine lv_aload_n hx hb (qaa qdn 11 rfl) rfl (lv_at hl 1 rfl) ?_
  obtain ⟨hCc, hPc, hDc, hFc⟩ := qac (ws' := (qal1 a0 jaX jaF jaD jbx x16 x17 x18 jaY jap jaW jal jam jax jdO ja6 jaV ja8 jae jge jaf ja0 ja4 jaP jaw jaI jaZ jaH jaS jan jaU jaE jar jaL jah jaB jaa jaz jaG jab ja2 z0_s jaq jai jaO jaA jat jau jav jaj jas jaJ jak jad jay jac)) hP hD hS hA [0] (by decide +kernel) rfl
  refine va_calli (va_runV (As := []) (rest := []) ⟨hx, hb, hml, hown, hts⟩ (qdQ l dC dI cyB cyI cyJ cyP a0 H.size (jaX) (jaF) (jaD) (.int jbx) (.int x16) (.int x18) (jaY) (jap) (.ref jaW) (jal) (jam) (jax) (.ref jdO) (ja6) (jaV) (ja8) (jae) (.int jge) (jaf) (ja0) (ja4) (jaP) (jaw) (jaI) (jaZ) (jaH) (jaS) (jan) (jaU) (jaE) (jar) (jaL) (jah) (jaB) (jaa) (jaz) (jaG) (jab) (ja2) (z0_s) (jaq) (jai) (jaO) (jaA) (jat) (jau) (jav) (jaj) (jas) (jaJ) (jak) (jad) (jay) (jac) x17 hw) (cwV 0 hts gX11_readDebt_X11_fine rfl rfl rfl (by decide +kernel) ⟨nbq rfl, nbq rfl⟩) ⟨qab, va_recv (q := (RX11, TX11, 55)) hK hPc (ci := 11) (q0 := 0) rfl rfl, qae hPc hK hDc hNw⟩ rfl rfl hl.1 rfl (lv_room (nbq rfl)) (qaa qdn 12 rfl) ⟨nbq rfl, nbq rfl⟩) hS (fun q _ h => hFc q h) hFc (fun r20 u t H1 locs ht hvm hw hB hz1 hk1 hS => ?_)
  obtain ⟨hP1, hK1, hD1⟩ := hB
  rw [ht] at hP1
  obtain ⟨hP, hD⟩ := qad (wr := (qaZK jaW cyI jbC jdO cyI jil)) (w1 := (qal1 a0 jaX jaF jaD jbx x16 x17 x18 jaY jap jaW jal jam jax jdO ja6 jaV ja8 jae jge jaf ja0 ja4 jaP jaw jaI jaZ jaH jaS jan jaU jaE jar jaL jah jaB jaa jaz jaG jab ja2 z0_s jaq jai jaO jaA jat jau jav jaj jas jaJ jak jad jay jac)) (wn := (qzM a0 jaX jaF jaD jbx x16 x17 x18 jaY jap jaW jal jam jax jdO ja6 jaV ja8 jae jge jaf ja0 ja4 jaP jaw jaI jaZ jaH jaS jan jaU jaE jar jaL jah jaB jaa jaz jaG jab ja2 z0_s jaq jai jaO jaA jat jau jav jaj jas jaJ jak jad jay jac jaW cyI jbC jdO cyI jil)) hP hD [0] [1, 2] [2, 0, 1] hCc rfl (by decide +kernel) (by decide +kernel) (by decide +kernel) rfl hk1 hFc hP1 hD1
  generalize H1 = H at hP hS ⊢
  refine lv_if_eq (tgt := 67) hx hb (qaa qdn 13 rfl) (by decide) (fun c21 => ?_) (fun c21 => ?_)
  · have hw := hw.1 c21
    exact ((W.vret hx hb hr (fun t ht hW => ⟨⟨(x16, x17, x18, jil), rfl, hw, by rw [ht]; exact hP, va_K.moved hW.alike hK, hD⟩, hS.F ht⟩) hS.2.2 (qaa qoP 7 rfl)))
  · have hw := hw.2 c21
    refine lv_aload_n hx hb (qaa qdn 14 rfl) rfl (lv_at hl 1 rfl) ?_
    refine va_get (D := (dC, dI)) (ci := 11) (v := .ref jdO) (C := RX11) (T := TX11) (N := 55) hx hb hts qRl hown hK hP 0 rfl rfl 13 (by decide) (hts _ q9P) (fun _ h9 => h9) rfl (qaa qdn 15 rfl) ?_
    refine lv_bipush (v := 6) hx hb (qaa qoP 0 rfl) (by decide) ?_
    refine lv_iload_n hx hb (qaa qoP 1 rfl) rfl (lv_at hl 2 rfl) ?_
    refine lv_imul hx hb (qaa qoP 2 rfl) ?_
    refine lv_topi (fun x22 ex22 => ?_)
    have hw := hw x22 ex22
    refine lv_iload_n hx hb (qaa qoP 3 rfl) rfl (lv_at hl 3 rfl) ?_
    refine lv_iadd hx hb (qaa qoP 4 rfl) ?_
    refine lv_topi (fun x23 ex23 => ?_)
    have hw := hw x23 ex23
    refine lv_iload hx hb (qaa qoP 5 rfl) (lv_at hl 0 rfl) ?_
    obtain ⟨hi9, hw⟩ := hw
    refine va_iast hx hb hK hP hD hS 2 1 rfl rfl hi9 (qaa qoP 6 rfl) (fun H locs hP hD hS => ?_)
    obtain ⟨f24, ef24⟩ : ∃ y : NI, y = upd jil x23.toNatClampNeg r19 := ⟨_, rfl⟩
    have hw := hw f24 ef24
    have hP : va_P (dC, dI) vwCl (qzM a0 jaX jaF jaD jbx x16 x17 x18 jaY jap jaW jal jam jax jdO ja6 jaV ja8 jae jge jaf ja0 ja4 jaP jaw jaI jaZ jaH jaS jan jaU jaE jar jaL jah jaB jaa jaz jaG jab ja2 z0_s jaq jai jaO jaA jat jau jav jaj jas jaJ jak jad jay jac jaW cyI jbC jdO cyI f24) H := by rw [ef24]; exact hP
    have hD : va_D A (qzM a0 jaX jaF jaD jbx x16 x17 x18 jaY jap jaW jal jam jax jdO ja6 jaV ja8 jae jge jaf ja0 ja4 jaP jaw jaI jaZ jaH jaS jan jaU jaE jar jaL jah jaB jaa jaz jaG jab ja2 z0_s jaq jai jaO jaA jat jau jav jaj jas jaJ jak jad jay jac jaW cyI jbC jdO cyI f24) := by rw [ef24]; exact hD
    exact ((W.vret hx hb hr (fun t ht hW => ⟨⟨(x16, x17, x18, f24), rfl, hw, by rw [ht]; exact hP, va_K.moved hW.alike hK, hD⟩, hS.F ht⟩) hS.2.2 (qaa qoP 7 rfl)))
set_option maxHeartbeats 4000000 in
set_option maxRecDepth 100000 in
theorem qaDW (l : Launch) (dC : Nat → ClassId) (dI : Nat → Nat → Nat) (cyB cyI cyJ cyP : ClassId) (a0 jaW jdO sz : Nat) (jaX jaF jaD jaY jap jal jam jax ja6 jaV ja8 jae jaf ja0 ja4 jaP jaw jaI jaZ jaH jaS jan jaU jaE jar jaL jah jaB jaa jaz jaG jab ja2 z0_s jaq jai jaO jaA jat jau jav jaj jas jaJ jak jad jay jac : Value) (jbx jge : Int32) (jbC : NI) (jcP jb8 jbh : Int32) (jil : NI) {Q : Int32 → Int32 → Int32 → NI → Prop} (hw : qPK jbx jge jbC jcP jb8 jbh jil Q) : Met l yX11_readDebt wsX11_readDebt ({ frames := 3, cells := 0, slots := 0, locals := 67 }) (va_Pc [.ref a0] (cPc (dC, dI) (kT cyB cyI cyJ cyP) (qzM a0 jaX jaF jaD jbx jcP jb8 jbh jaY jap jaW jal jam jax jdO ja6 jaV ja8 jae jge jaf ja0 ja4 jaP jaw jaI jaZ jaH jaS jan jaU jaE jar jaL jah jaB jaa jaz jaG jab ja2 z0_s jaq jai jaO jaA jat jau jav jaj jas jaJ jak jad jay jac jaW cyI jbC jdO cyI jil) sz)) (va_Qv (fun (u : Int32 × Int32 × Int32 × NI) => Q u.1 u.2.1 u.2.2.1 u.2.2.2) (cB (dC, dI) (kT cyB cyI cyJ cyP) (va_A (qzM a0 jaX jaF jaD jbx jcP jb8 jbh jaY jap jaW jal jam jax jdO ja6 jaV ja8 jae jge jaf ja0 ja4 jaP jaw jaI jaZ jaH jaS jan jaU jaE jar jaL jah jaB jaa jaz jaG jab ja2 z0_s jaq jai jaO jaA jat jau jav jaj jas jaJ jak jad jay jac jaW cyI jbC jdO cyI jil) sz) (fun u : Int32 × Int32 × Int32 × NI => ((qzM a0 jaX jaF jaD jbx u.1 u.2.1 u.2.2.1 jaY jap jaW jal jam jax jdO ja6 jaV ja8 jae jge jaf ja0 ja4 jaP jaw jaI jaZ jaH jaS jan jaU jaE jar jaL jah jaB jaa jaz jaG jab ja2 z0_s jaq jai jaO jaA jat jau jav jaj jas jaJ jak jad jay jac jaW cyI jbC jdO cyI u.2.2.2) : va_W))) (va_A (qzM a0 jaX jaF jaD jbx jcP jb8 jbh jaY jap jaW jal jam jax jdO ja6 jaV ja8 jae jge jaf ja0 ja4 jaP jaw jaI jaZ jaH jaS jan jaU jaE jar jaL jah jaB jaa jaz jaG jab ja2 z0_s jaq jai jaO jaA jat jau jav jaj jas jaJ jak jad jay jac jaW cyI jbC jdO cyI jil) sz)) 0 0 (va_A (qzM a0 jaX jaF jaD jbx jcP jb8 jbh jaY jap jaW jal jam jax jdO ja6 jaV ja8 jae jge jaf ja0 ja4 jaP jaw jaI jaZ jaH jaS jan jaU jaE jar jaL jah jaB jaa jaz jaG jab ja2 z0_s jaq jai jaO jaA jat jau jav jaj jas jaJ jak jad jay jac jaW cyI jbC jdO cyI jil) sz) := by
  refine Met.ofW (cc := cX11_readDebt) (maxL := 5) (ret := none) (by decide) rfl ?_
  intro p e s m args below meth c s₁ B hml hv
  obtain ⟨rfl, hsz, hP, hK, hD0, hNw⟩ := hv
  have hx := B.exec
  have hb := B.bytes
  have hr := B.returns
  have hts := atoms_spec (ws := wsX11_readDebt) B.pre
  have hown : s.vm.findClass RX11 = some m.cls := findClass_of_methodNamed B.named
  have hlocks := B.notSynchronized
  subst hsz
  have hD := hD0.self (sz := s.heap.size)
  generalize hAe : va_A (qzM a0 jaX jaF jaD jbx jcP jb8 jbh jaY jap jaW jal jam jax jdO ja6 jaV ja8 jae jge jaf ja0 ja4 jaP jaw jaI jaZ jaH jaS jan jaU jaE jar jaL jah jaB jaa jaz jaG jab ja2 z0_s jaq jai jaO jaA jat jau jav jaj jas jaJ jak jad jay jac jaW cyI jbC jdO cyI jil) s.heap.size = A at hD ⊢
  have hA : ∀ q : Nat, s.heap.size ≤ q → A q := fun q h => by rw [← hAe]; exact Or.inr h
  have hS : va_S A s.heap s.heap [] := va_S.rf
  have hP : va_P (dC, dI) vwCl (qzM a0 jaX jaF jaD jbx jcP jb8 jbh jaY jap jaW jal jam jax jdO ja6 jaV ja8 jae jge jaf ja0 ja4 jaP jaw jaI jaZ jaH jaS jan jaU jaE jar jaL jah jaB jaa jaz jaG jab ja2 z0_s jaq jai jaO jaA jat jau jav jaj jas jaJ jak jad jay jac jaW cyI jbC jdO cyI jil) s.heap := hP
  have hl := lv_entry ([.ref a0]) (n := 5) (nbq rfl)
  rw [lg_entry_eq]
  generalize (lg_sl ([.ref a0]) ++ List.replicate (5 - (lg_sl ([.ref a0])).length) Slot.unset).toArray = ls at hl ⊢
  have hl : lv_has ls 5 [(0, .ref a0)] := hl
  have C0 : cfx p s m _ meth c cX11_readDebt none wsX11_readDebt RX11 5 A (dC, dI) (kT cyB cyI cyJ cyP) := ⟨hx, hb, hr, hts, hown, hlocks, hml, hA, hK, hNw⟩
  clear hAe
  obtain ⟨H, hH⟩ : ∃ H, H = s.heap := ⟨_, rfl⟩
  rw [← hH] at hP ⊢
  have hS : va_S A s.heap H [] := by rw [hH]; exact va_S.rf
  have hS := hS
  refine lv_aload_n hx hb (qaa qez 0 rfl) rfl (lv_at hl 0 rfl) ?_
  obtain ⟨hCc, hPc, hDc, hFc⟩ := qac (ws' := (q1J a0 jaX jaF jaD jbx jcP jb8 jbh jaY jap jaW jal jam jax jdO ja6 jaV ja8 jae jge jaf ja0 ja4 jaP jaw jaI jaZ jaH jaS jan jaU jaE jar jaL jah jaB jaa jaz jaG jab ja2 z0_s jaq jai jaO jaA jat jau jav jaj jas jaJ jak jad jay jac jaW cyI jbC)) hP hD hS hA [0, 1] (by decide +kernel) rfl
  refine va_calli (va_runV (As := []) (rest := []) ⟨hx, hb, hml, hown, hts⟩ (q2u l dC dI cyB cyI cyJ cyP a0 jaW H.size (jaX) (jaF) (jaD) (jaY) (jap) (jal) (jam) (jax) (.ref jdO) (ja6) (jaV) (ja8) (jae) (jaf) (ja0) (ja4) (jaP) (jaw) (jaI) (jaZ) (jaH) (jaS) (jan) (jaU) (jaE) (jar) (jaL) (jah) (jaB) (jaa) (jaz) (jaG) (jab) (ja2) (z0_s) (jaq) (jai) (jaO) (jaA) (jat) (jau) (jav) (jaj) (jas) (jaJ) (jak) (jad) (jay) (jac) jbx jge jbC jcP jb8 jbh hw) (cwV 0 hts gX11_readDebt_X11_readHare rfl rfl rfl (by decide +kernel) ⟨nbq rfl, nbq rfl⟩) ⟨qab, va_recv (q := (RX11, TX11, 55)) hK hPc (ci := 11) (q0 := 0) rfl rfl, qae hPc hK hDc hNw⟩ rfl rfl hl.1 rfl (lv_room (nbq rfl)) (qaa qez 1 rfl) ⟨nbq rfl, nbq rfl⟩) hS (fun q _ h => hFc q h) hFc (fun r4 u t H1 locs ht hvm hw hB hz1 hk1 hS => ?_)
  obtain ⟨x1, x2, x3⟩ := u
  obtain ⟨hP1, hK1, hD1⟩ := hB
  rw [ht] at hP1
  obtain ⟨hP, hD⟩ := qad (wr := (qaQy jdO cyI jil)) (w1 := (q1J a0 jaX jaF jaD jbx x1 x2 x3 jaY jap jaW jal jam jax jdO ja6 jaV ja8 jae jge jaf ja0 ja4 jaP jaw jaI jaZ jaH jaS jan jaU jaE jar jaL jah jaB jaa jaz jaG jab ja2 z0_s jaq jai jaO jaA jat jau jav jaj jas jaJ jak jad jay jac jaW cyI jbC)) (wn := (qzM a0 jaX jaF jaD jbx x1 x2 x3 jaY jap jaW jal jam jax jdO ja6 jaV ja8 jae jge jaf ja0 ja4 jaP jaw jaI jaZ jaH jaS jan jaU jaE jar jaL jah jaB jaa jaz jaG jab ja2 z0_s jaq jai jaO jaA jat jau jav jaj jas jaJ jak jad jay jac jaW cyI jbC jdO cyI jil)) hP hD [0, 1] [2] [1, 2, 0] hCc rfl (by decide +kernel) (by decide +kernel) (by decide +kernel) rfl hk1 hFc hP1 hD1
  generalize H1 = H at hP hS ⊢
  refine lv_istore_n (lv' := [(1, .int r4), (0, .ref a0)]) hx hb (qaa qez 2 rfl) rfl hl (by decide) rfl (fun ls hl => ?_)
  refine lv_aload_n hx hb (qaa qez 3 rfl) rfl (lv_at hl 1 rfl) ?_
  obtain ⟨hCc, hPc, hDc, hFc⟩ := qac (ws' := (q1J a0 jaX jaF jaD jbx x1 x2 x3 jaY jap jaW jal jam jax jdO ja6 jaV ja8 jae jge jaf ja0 ja4 jaP jaw jaI jaZ jaH jaS jan jaU jaE jar jaL jah jaB jaa jaz jaG jab ja2 z0_s jaq jai jaO jaA jat jau jav jaj jas jaJ jak jad jay jac jaW cyI jbC)) hP hD hS hA [0, 1] (by decide +kernel) rfl
  refine va_calli (va_runV (As := []) (rest := []) ⟨hx, hb, hml, hown, hts⟩ (qeS l dC dI cyB cyI cyJ cyP a0 jaW H.size (jaX) (jaF) (jaD) (.int x2) (.int x3) (jaY) (jap) (jal) (jam) (jax) (.ref jdO) (ja6) (jaV) (ja8) (jae) (.int jge) (jaf) (ja0) (ja4) (jaP) (jaw) (jaI) (jaZ) (jaH) (jaS) (jan) (jaU) (jaE) (jar) (jaL) (jah) (jaB) (jaa) (jaz) (jaG) (jab) (ja2) (z0_s) (jaq) (jai) (jaO) (jaA) (jat) (jau) (jav) (jaj) (jas) (jaJ) (jak) (jad) (jay) (jac) jbx jbC x1 hw) (cwV 0 hts gX11_readDebt_X11_here rfl rfl rfl (by decide +kernel) ⟨nbq rfl, nbq rfl⟩) ⟨qab, va_recv (q := (RX11, TX11, 55)) hK hPc (ci := 11) (q0 := 0) rfl rfl, qae hPc hK hDc hNw⟩ rfl rfl hl.1 rfl (lv_room (nbq rfl)) (qaa qez 4 rfl) ⟨nbq rfl, nbq rfl⟩) hS (fun q _ h => hFc q h) hFc (fun r6 u t H1 locs ht hvm hw hB hz1 hk1 hS => ?_)
  obtain ⟨x5, rfl⟩ : ∃ z, z = u := ⟨_, rfl⟩
  obtain ⟨hP1, hK1, hD1⟩ := hB
  rw [ht] at hP1
  obtain ⟨hP, hD⟩ := qad (wr := (qaQy jdO cyI jil)) (w1 := (q1J a0 jaX jaF jaD jbx x5 x2 x3 jaY jap jaW jal jam jax jdO ja6 jaV ja8 jae jge jaf ja0 ja4 jaP jaw jaI jaZ jaH jaS jan jaU jaE jar jaL jah jaB jaa jaz jaG jab ja2 z0_s jaq jai jaO jaA jat jau jav jaj jas jaJ jak jad jay jac jaW cyI jbC)) (wn := (qzM a0 jaX jaF jaD jbx x5 x2 x3 jaY jap jaW jal jam jax jdO ja6 jaV ja8 jae jge jaf ja0 ja4 jaP jaw jaI jaZ jaH jaS jan jaU jaE jar jaL jah jaB jaa jaz jaG jab ja2 z0_s jaq jai jaO jaA jat jau jav jaj jas jaJ jak jad jay jac jaW cyI jbC jdO cyI jil)) hP hD [0, 1] [2] [1, 2, 0] hCc rfl (by decide +kernel) (by decide +kernel) (by decide +kernel) rfl hk1 hFc hP1 hD1
  generalize H1 = H at hP hS ⊢
  refine lv_pop hx hb (qaa qez 5 rfl) rfl ?_
  refine lv_aload_n hx hb (qaa qez 6 rfl) rfl (lv_at hl 1 rfl) ?_
  refine va_get (D := (dC, dI)) (ci := 11) (v := .int x5) (C := RX11) (T := TX11) (N := 55) hx hb hts qRl hown hK hP 0 rfl rfl 4 (by decide) (hts _ q56) (fun _ h9 => h9) rfl (qaa qez 7 rfl) ?_
  refine lv_istore_n (lv' := [(2, .int x5), (1, .int r4), (0, .ref a0)]) hx hb (qaa qez 8 rfl) rfl hl (by decide) rfl (fun ls hl => ?_)
  refine lv_aload_n hx hb (qaa qez 9 rfl) rfl (lv_at hl 2 rfl) ?_
  obtain ⟨hCc, hPc, hDc, hFc⟩ := qac (ws' := (q1J a0 jaX jaF jaD jbx x5 x2 x3 jaY jap jaW jal jam jax jdO ja6 jaV ja8 jae jge jaf ja0 ja4 jaP jaw jaI jaZ jaH jaS jan jaU jaE jar jaL jah jaB jaa jaz jaG jab ja2 z0_s jaq jai jaO jaA jat jau jav jaj jas jaJ jak jad jay jac jaW cyI jbC)) hP hD hS hA [0, 1] (by decide +kernel) rfl
  refine va_calli (va_runV (As := []) (rest := []) ⟨hx, hb, hml, hown, hts⟩ (q2u l dC dI cyB cyI cyJ cyP a0 jaW H.size (jaX) (jaF) (jaD) (jaY) (jap) (jal) (jam) (jax) (.ref jdO) (ja6) (jaV) (ja8) (jae) (jaf) (ja0) (ja4) (jaP) (jaw) (jaI) (jaZ) (jaH) (jaS) (jan) (jaU) (jaE) (jar) (jaL) (jah) (jaB) (jaa) (jaz) (jaG) (jab) (ja2) (z0_s) (jaq) (jai) (jaO) (jaA) (jat) (jau) (jav) (jaj) (jas) (jaJ) (jak) (jad) (jay) (jac) jbx jge jbC x5 x2 x3 hw) (cwV 0 hts gX11_readDebt_X11_readHare rfl rfl rfl (by decide +kernel) ⟨nbq rfl, nbq rfl⟩) ⟨qab, va_recv (q := (RX11, TX11, 55)) hK hPc (ci := 11) (q0 := 0) rfl rfl, qae hPc hK hDc hNw⟩ rfl rfl hl.1 rfl (lv_room (nbq rfl)) (qaa qez 10 rfl) ⟨nbq rfl, nbq rfl⟩) hS (fun q _ h => hFc q h) hFc (fun r10 u t H1 locs ht hvm hw hB hz1 hk1 hS => ?_)
  obtain ⟨x7, x8, x9⟩ := u
  obtain ⟨hP1, hK1, hD1⟩ := hB
  rw [ht] at hP1
  obtain ⟨hP, hD⟩ := qad (wr := (qaQy jdO cyI jil)) (w1 := (q1J a0 jaX jaF jaD jbx x7 x8 x9 jaY jap jaW jal jam jax jdO ja6 jaV ja8 jae jge jaf ja0 ja4 jaP jaw jaI jaZ jaH jaS jan jaU jaE jar jaL jah jaB jaa jaz jaG jab ja2 z0_s jaq jai jaO jaA jat jau jav jaj jas jaJ jak jad jay jac jaW cyI jbC)) (wn := (qzM a0 jaX jaF jaD jbx x7 x8 x9 jaY jap jaW jal jam jax jdO ja6 jaV ja8 jae jge jaf ja0 ja4 jaP jaw jaI jaZ jaH jaS jan jaU jaE jar jaL jah jaB jaa jaz jaG jab ja2 z0_s jaq jai jaO jaA jat jau jav jaj jas jaJ jak jad jay jac jaW cyI jbC jdO cyI jil)) hP hD [0, 1] [2] [1, 2, 0] hCc rfl (by decide +kernel) (by decide +kernel) (by decide +kernel) rfl hk1 hFc hP1 hD1
  generalize H1 = H at hP hS ⊢
  refine lv_istore_n (lv' := [(3, .int r10), (2, .int x5), (1, .int r4), (0, .ref a0)]) hx hb (qaa qez 11 rfl) rfl hl (by decide) rfl (fun ls hl => ?_)
  refine lv_aload_n hx hb (qaa qez 12 rfl) rfl (lv_at hl 3 rfl) ?_
  obtain ⟨hCc, hPc, hDc, hFc⟩ := qac (ws' := (qal1 a0 jaX jaF jaD jbx x7 x8 x9 jaY jap jaW jal jam jax jdO ja6 jaV ja8 jae jge jaf ja0 ja4 jaP jaw jaI jaZ jaH jaS jan jaU jaE jar jaL jah jaB jaa jaz jaG jab ja2 z0_s jaq jai jaO jaA jat jau jav jaj jas jaJ jak jad jay jac)) hP hD hS hA [0] (by decide +kernel) rfl
  refine va_calli (va_runV (As := []) (rest := []) ⟨hx, hb, hml, hown, hts⟩ (qdQ l dC dI cyB cyI cyJ cyP a0 H.size (jaX) (jaF) (jaD) (.int jbx) (.int x7) (.int x9) (jaY) (jap) (.ref jaW) (jal) (jam) (jax) (.ref jdO) (ja6) (jaV) (ja8) (jae) (.int jge) (jaf) (ja0) (ja4) (jaP) (jaw) (jaI) (jaZ) (jaH) (jaS) (jan) (jaU) (jaE) (jar) (jaL) (jah) (jaB) (jaa) (jaz) (jaG) (jab) (ja2) (z0_s) (jaq) (jai) (jaO) (jaA) (jat) (jau) (jav) (jaj) (jas) (jaJ) (jak) (jad) (jay) (jac) x8 hw) (cwV 0 hts gX11_readDebt_X11_fine rfl rfl rfl (by decide +kernel) ⟨nbq rfl, nbq rfl⟩) ⟨qab, va_recv (q := (RX11, TX11, 55)) hK hPc (ci := 11) (q0 := 0) rfl rfl, qae hPc hK hDc hNw⟩ rfl rfl hl.1 rfl (lv_room (nbq rfl)) (qaa qez 13 rfl) ⟨nbq rfl, nbq rfl⟩) hS (fun q _ h => hFc q h) hFc (fun r11 u t H1 locs ht hvm hw hB hz1 hk1 hS => ?_)
  obtain ⟨hP1, hK1, hD1⟩ := hB
  rw [ht] at hP1
  obtain ⟨hP, hD⟩ := qad (wr := (qaZK jaW cyI jbC jdO cyI jil)) (w1 := (qal1 a0 jaX jaF jaD jbx x7 x8 x9 jaY jap jaW jal jam jax jdO ja6 jaV ja8 jae jge jaf ja0 ja4 jaP jaw jaI jaZ jaH jaS jan jaU jaE jar jaL jah jaB jaa jaz jaG jab ja2 z0_s jaq jai jaO jaA jat jau jav jaj jas jaJ jak jad jay jac)) (wn := (qzM a0 jaX jaF jaD jbx x7 x8 x9 jaY jap jaW jal jam jax jdO ja6 jaV ja8 jae jge jaf ja0 ja4 jaP jaw jaI jaZ jaH jaS jan jaU jaE jar jaL jah jaB jaa jaz jaG jab ja2 z0_s jaq jai jaO jaA jat jau jav jaj jas jaJ jak jad jay jac jaW cyI jbC jdO cyI jil)) hP hD [0] [1, 2] [2, 0, 1] hCc rfl (by decide +kernel) (by decide +kernel) (by decide +kernel) rfl hk1 hFc hP1 hD1
  generalize H1 = H at hP hS ⊢
  refine lv_if_eq (tgt := 38) hx hb (qaa qez 14 rfl) (by decide) (fun c12 => ?_) (fun c12 => ?_)
  · have hw := hw.1 c12
    exact qHq dC dI cyB cyI cyJ cyP a0 jaW jdO jaX jaF jaD jaY jap jal jam jax ja6 jaV ja8 jae jaf ja0 ja4 jaP jaw jaI jaZ jaH jaS jan jaU jaE jar jaL jah jaB jaa jaz jaG jab ja2 z0_s jaq jai jaO jaA jat jau jav jaj jas jaJ jak jad jay jac jbx jge jbC Q C0 _ _ _ x7 x8 x9 jil r4 r10 hP hD hS (lv_sub hl [3, 2, 0] rfl) hw
  · have hw := hw.2 c12
    refine lv_iload_n hx hb (qaa qez 15 rfl) rfl (lv_at hl 2 rfl) ?_
    refine lv_iload_n hx hb (qaa qdn 0 rfl) rfl (lv_at hl 0 rfl) ?_
    refine lv_icmp_ne (tgt := 38) hx hb (qaa qdn 1 rfl) (by decide) (fun c13 => ?_) (fun c13 => ?_)
    · have hw := hw.1 c13
      exact qHq dC dI cyB cyI cyJ cyP a0 jaW jdO jaX jaF jaD jaY jap jal jam jax ja6 jaV ja8 jae jaf ja0 ja4 jaP jaw jaI jaZ jaH jaS jan jaU jaE jar jaL jah jaB jaa jaz jaG jab ja2 z0_s jaq jai jaO jaA jat jau jav jaj jas jaJ jak jad jay jac jbx jge jbC Q C0 _ _ _ x7 x8 x9 jil r4 r10 hP hD hS (lv_sub hl [3, 2, 0] rfl) hw
    · have hw := hw.2 c13
      refine lv_aload_n hx hb (qaa qdn 2 rfl) rfl (lv_at hl 3 rfl) ?_
      refine lv_iconst (v := 2) hx hb (qaa qdn 3 rfl) (by decide) ?_
      refine lv_iload_n hx hb (qaa qdn 4 rfl) rfl (lv_at hl 1 rfl) ?_
      obtain ⟨hCc, hPc, hDc, hFc⟩ := qac (ws' := (qal1 a0 jaX jaF jaD jbx x7 x8 x9 jaY jap jaW jal jam jax jdO ja6 jaV ja8 jae jge jaf ja0 ja4 jaP jaw jaI jaZ jaH jaS jan jaU jaE jar jaL jah jaB jaa jaz jaG jab ja2 z0_s jaq jai jaO jaA jat jau jav jaj jas jaJ jak jad jay jac)) hP hD hS hA [0] (by decide +kernel) rfl
      refine va_callv (va_runV (As := [.int 2, .int x5]) (rest := []) ⟨hx, hb, hml, hown, hts⟩ (qrt l dC dI cyB cyI cyJ cyP a0 H.size (jaX) (jaF) (jaD) (.int jbx) (.int x7) (jaY) (jap) (.ref jaW) (jal) (jam) (jax) (.ref jdO) (ja6) (jaV) (ja8) (jae) (.int jge) (jaf) (ja0) (ja4) (jaP) (jaw) (jaI) (jaZ) (jaH) (jaS) (jan) (jaU) (jaE) (jar) (jaL) (jah) (jaB) (jaa) (jaz) (jaG) (jab) (ja2) (z0_s) (jaq) (jai) (jaO) (jaA) (jat) (jau) (jav) (jaj) (jas) (jaJ) (jak) (jad) (jay) (jac) x8 x9 2 x5 hw) (cwV 2 hts gX11_readDebt_X11_wrong rfl rfl rfl (by decide +kernel) ⟨nbq rfl, nbq rfl⟩) ⟨qab, va_recv (q := (RX11, TX11, 55)) hK hPc (ci := 11) (q0 := 0) rfl rfl, qae hPc hK hDc hNw⟩ rfl rfl hl.1 rfl (lv_room (nbq rfl)) (qaa qdn 5 rfl) ⟨nbq rfl, nbq rfl⟩) hS (fun q _ h => hFc q h) hFc (fun u t H1 locs ht hvm hw hB hz1 hk1 hS => ?_)
      obtain ⟨x14, x15⟩ := u
      obtain ⟨hP1, hK1, hD1⟩ := hB
      rw [ht] at hP1
      obtain ⟨hP, hD⟩ := qad (wr := (qaZK jaW cyI jbC jdO cyI jil)) (w1 := (qal1 a0 jaX jaF jaD jbx x7 x14 x15 jaY jap jaW jal jam jax jdO ja6 jaV ja8 jae jge jaf ja0 ja4 jaP jaw jaI jaZ jaH jaS jan jaU jaE jar jaL jah jaB jaa jaz jaG jab ja2 z0_s jaq jai jaO jaA jat jau jav jaj jas jaJ jak jad jay jac)) (wn := (qzM a0 jaX jaF jaD jbx x7 x14 x15 jaY jap jaW jal jam jax jdO ja6 jaV ja8 jae jge jaf ja0 ja4 jaP jaw jaI jaZ jaH jaS jan jaU jaE jar jaL jah jaB jaa jaz jaG jab ja2 z0_s jaq jai jaO jaA jat jau jav jaj jas jaJ jak jad jay jac jaW cyI jbC jdO cyI jil)) hP hD [0] [1, 2] [2, 0, 1] hCc rfl (by decide +kernel) (by decide +kernel) (by decide +kernel) rfl hk1 hFc hP1 hD1
      generalize H1 = H at hP hS ⊢
      exact qHq dC dI cyB cyI cyJ cyP a0 jaW jdO jaX jaF jaD jaY jap jal jam jax ja6 jaV ja8 jae jaf ja0 ja4 jaP jaw jaI jaZ jaH jaS jan jaU jaE jar jaL jah jaB jaa jaz jaG jab ja2 z0_s jaq jai jaO jaA jat jau jav jaj jas jaJ jak jad jay jac jbx jge jbC Q C0 _ _ _ x7 x14 x15 jil r4 r10 hP hD hS (lv_sub hl [3, 2, 0] rfl) hw
theorem qbV : ∀ w ∈ u_ws RX11 TX11 55, w ∈ wsX11_sets := uiM qm6 qga (by decide +kernel)
theorem qatj : (.fieldLink RX11 157 "MarchHaresModel" "newForms" "I" : Cond) ∈ wsX11_sets := qm6 512 (by decide +kernel)
theorem qaqN : (.fieldLink RX11 160 "MarchHaresModel" "newHares" "I" : Cond) ∈ wsX11_sets := qm6 513 (by decide +kernel)
theorem qasW : (.fieldLink RX11 163 "MarchHaresModel" "newFoxes" "I" : Cond) ∈ wsX11_sets := qm6 514 (by decide +kernel)
theorem qaoZ : (.fieldLink RX11 166 "MarchHaresModel" "forms" "I" : Cond) ∈ wsX11_sets := qm6 519 (by decide +kernel)
theorem qZp : (.fieldLink RX11 169 "MarchHaresModel" "hares" "I" : Cond) ∈ wsX11_sets := qm6 520 (by decide +kernel)
theorem qaoH : (.fieldLink RX11 172 "MarchHaresModel" "foxes" "I" : Cond) ∈ wsX11_sets := qm6 521 (by decide +kernel)
theorem qarG : (.fieldLink RX11 179 "MarchHaresModel" "codes" "I" : Cond) ∈ wsX11_sets := qm6 522 (by decide +kernel)
theorem qapz : (.fieldLink RX11 182 "MarchHaresModel" "books" "I" : Cond) ∈ wsX11_sets := qm6 523 (by decide +kernel)
theorem qapB : (.fieldLink RX11 185 "MarchHaresModel" "works" "I" : Cond) ∈ wsX11_sets := qm6 524 (by decide +kernel)
theorem qaqt : (.fieldLink RX11 188 "MarchHaresModel" "images" "I" : Cond) ∈ wsX11_sets := qm6 525 (by decide +kernel)
theorem qatL : (.fieldLink RX11 191 "MarchHaresModel" "refusedSteps" "I" : Cond) ∈ wsX11_sets := qm6 526 (by decide +kernel)
theorem qaBv : (.fieldLink RX11 23 "MarchHaresModel" "newForm" "[I" : Cond) ∈ wsX11_sets := qm6 401 (by decide +kernel)
theorem qavv : (.fieldLink RX11 26 "MarchHaresModel" "newHare" "[I" : Cond) ∈ wsX11_sets := qm6 402 (by decide +kernel)
theorem qayM : (.fieldLink RX11 29 "MarchHaresModel" "newFox" "[I" : Cond) ∈ wsX11_sets := qm6 403 (by decide +kernel)
theorem qaz1 : (.fieldLink RX11 32 "MarchHaresModel" "newDebt" "[I" : Cond) ∈ wsX11_sets := qm6 404 (by decide +kernel)
theorem qazy : (.fieldLink RX11 35 "MarchHaresModel" "form" "[I" : Cond) ∈ wsX11_sets := qm6 405 (by decide +kernel)
theorem qPD : (.fieldLink RX11 38 "MarchHaresModel" "hare" "[I" : Cond) ∈ wsX11_sets := qm6 406 (by decide +kernel)
theorem qayh : (.fieldLink RX11 41 "MarchHaresModel" "fox" "[I" : Cond) ∈ wsX11_sets := qm6 407 (by decide +kernel)
theorem qCo : (.fieldLink RX11 68 "MarchHaresModel" "now" "[I" : Cond) ∈ wsX11_sets := qm6 456 (by decide +kernel)
theorem qavi : (.fieldLink RX11 80 "MarchHaresModel" "book" "[I" : Cond) ∈ wsX11_sets := qm6 460 (by decide +kernel)
set_option maxHeartbeats 4000000 in
set_option maxRecDepth 100000 in
theorem qazn {p : Program} {l : Launch} {e : Env} {s : State} {m : MethodId} {args : Array Value} {below : List Frame} {meth : Method} {c : Code} {A : Nat → Prop} (dC : Nat → ClassId) (dI : Nat → Nat → Nat) (cyB cyI cyJ cyP : ClassId) (a0 jeR ja5 je2 jb9 jfM jbJ jdj jaT jdO : Nat) (jaX jaF jaD ja7 jby jbf jaM jaY jap jaK jaw jaI jaZ jaH jaS jan jaE jar jaL jah jaz jaG jab z0_s jaq jai jat jau jav jaj jas jaJ jak jad jay : Value) (jg3 jge jg8 : Int32) (ji8 ji9 jjB jil : NI) (Q : Int32 → Int32 → Int32 → NI → NI → NI → Int32 → Int32 → Int32 → Int32 → Int32 → NI → NI → Prop) (C0 : cfx p s m args meth c cX11_sets none wsX11_sets RX11 2 A (dC, dI) (kT cyB cyI cyJ cyP)) : ∀ (n : Nat) (H : Heap) (locs : List Loc) (ls : Array Slot) (jaN jaC jbw : Int32) (jbv jdH jcx : NI) (jbD jh9 jhS ji3 jcn : Int32) (jgu jb0 : NI) (l1 : Int32), va_P (dC, dI) vwCl (qhe a0 jaX jaF jaD ja7 jby jbf jaM jaY jap jaK jeR je2 jfM jdO ja5 jb9 jbJ jg3 jge jg8 jaN jaC jbw jaw jaI jaZ jaH jaS jan jbD jaE jar jaL jah jhS jcn jaz jaG jab jaT z0_s jaq jai jdj jh9 jat jau jav jaj jas jaJ jak jad jay ji3 jeR cyI ji8 ja5 cyI jbv je2 cyI ji9 jb9 cyI jdH jfM cyI jjB jbJ cyI jcx jdj cyI jgu jaT cyI jb0 jdO cyI jil) H → va_D A (qhe a0 jaX jaF jaD ja7 jby jbf jaM jaY jap jaK jeR je2 jfM jdO ja5 jb9 jbJ jg3 jge jg8 jaN jaC jbw jaw jaI jaZ jaH jaS jan jbD jaE jar jaL jah jhS jcn jaz jaG jab jaT z0_s jaq jai jdj jh9 jat jau jav jaj jas jaJ jak jad jay ji3 jeR cyI ji8 ja5 cyI jbv je2 cyI ji9 jb9 cyI jdH jfM cyI jjB jbJ cyI jcx jdj cyI jgu jaT cyI jb0 jdO cyI jil) → va_S A s.heap H locs → lv_has ls 2 [(0, .ref a0), (1, .int l1)] → qHp jg3 jge jg8 ji8 ji9 jjB jil Q n jaN jaC jbw jbv jdH jcx jbD jh9 jhS ji3 jcn jgu jb0 l1 → W p l e (headSpec wsX11_sets ({ frames := 1, cells := 0, slots := 0, locals := 24 })).room s m args below meth c H locs 0 0 (MQ below (va_Qv (fun (u : Int32 × Int32 × Int32 × NI × NI × NI × Int32 × Int32 × Int32 × Int32 × Int32 × NI × NI) => Q u.1 u.2.1 u.2.2.1 u.2.2.2.1 u.2.2.2.2.1 u.2.2.2.2.2.1 u.2.2.2.2.2.2.1 u.2.2.2.2.2.2.2.1 u.2.2.2.2.2.2.2.2.1 u.2.2.2.2.2.2.2.2.2.1 u.2.2.2.2.2.2.2.2.2.2.1 u.2.2.2.2.2.2.2.2.2.2.2.1 u.2.2.2.2.2.2.2.2.2.2.2.2) (cB (dC, dI) (kT cyB cyI cyJ cyP) A (fun u : Int32 × Int32 × Int32 × NI × NI × NI × Int32 × Int32 × Int32 × Int32 × Int32 × NI × NI => ((qhe a0 jaX jaF jaD ja7 jby jbf jaM jaY jap jaK jeR je2 jfM jdO ja5 jb9 jbJ jg3 jge jg8 u.1 u.2.1 u.2.2.1 jaw jaI jaZ jaH jaS jan u.2.2.2.2.2.2.1 jaE jar jaL jah u.2.2.2.2.2.2.2.2.1 u.2.2.2.2.2.2.2.2.2.2.1 jaz jaG jab jaT z0_s jaq jai jdj u.2.2.2.2.2.2.2.1 jat jau jav jaj jas jaJ jak jad jay u.2.2.2.2.2.2.2.2.2.1 jeR cyI ji8 ja5 cyI u.2.2.2.1 je2 cyI ji9 jb9 cyI u.2.2.2.2.1 jfM cyI jjB jbJ cyI u.2.2.2.2.2.1 jdj cyI u.2.2.2.2.2.2.2.2.2.2.2.1 jaT cyI u.2.2.2.2.2.2.2.2.2.2.2.2 jdO cyI jil) : va_W))) A) args s 0 0 A) (F0 m 186 ls []) := by
  obtain ⟨hx, hb, hr, hts, hown, hlocks, hml, hA, hK, hNw⟩ := id C0
  intro n
  induction n with
  | zero => intro H locs ls jaN jaC jbw jbv jdH jcx jbD jh9 jhS ji3 jcn jgu jb0 l1 hP hD hS hl hw; exact False.elim hw
  | succ n ih =>
    intro H locs ls jaN jaC jbw jbv jdH jcx jbD jh9 jhS ji3 jcn jgu jb0 l1 hP hD hS hl hw
    refine lv_iload_n hx hb (qaa qhg 12 rfl) rfl (lv_at hl 1 rfl) ?_
    refine lv_bipush (v := 36) hx hb (qaa qhg 13 rfl) (by decide) ?_
    refine lv_icmp_ge (tgt := 213) hx hb (qaa qhg 14 rfl) (by decide) (fun c21 => ?_) (fun c21 => ?_)
    · have hw := hw.1 c21
      refine lv_aload_n hx hb (qaa qhJ 11 rfl) rfl (lv_at hl 0 rfl) ?_
      refine va_get (D := (dC, dI)) (ci := 11) (v := .ref jaT) (C := RX11) (T := TX11) (N := 55) hx hb hts qbV hown hK hP 0 rfl rfl 39 (by decide) (hts _ qCo) (fun _ h9 => h9) rfl (qaa qhJ 12 rfl) ?_
      refine lv_bipush (v := 66) hx hb (qaa qhJ 13 rfl) (by decide) ?_
      refine lv_iconst (v := 1) hx hb (qaa qhJ 14 rfl) (by decide) ?_
      refine va_iast hx hb hK hP hD hS 8 1 rfl rfl (vin (by decide)) (qaa qhJ 15 rfl) (fun H locs hP hD hS => ?_)
      obtain ⟨f22, ef22⟩ : ∃ y : NI, y = upd jb0 (66 : Int32).toNatClampNeg 1 := ⟨_, rfl⟩
      have hw := hw f22 ef22
      have hP : va_P (dC, dI) vwCl (qhe a0 jaX jaF jaD ja7 jby jbf jaM jaY jap jaK jeR je2 jfM jdO ja5 jb9 jbJ jg3 jge jg8 jaN jaC jbw jaw jaI jaZ jaH jaS jan jbD jaE jar jaL jah jhS jcn jaz jaG jab jaT z0_s jaq jai jdj jh9 jat jau jav jaj jas jaJ jak jad jay ji3 jeR cyI ji8 ja5 cyI jbv je2 cyI ji9 jb9 cyI jdH jfM cyI jjB jbJ cyI jcx jdj cyI jgu jaT cyI f22 jdO cyI jil) H := by rw [ef22]; exact hP
      have hD : va_D A (qhe a0 jaX jaF jaD ja7 jby jbf jaM jaY jap jaK jeR je2 jfM jdO ja5 jb9 jbJ jg3 jge jg8 jaN jaC jbw jaw jaI jaZ jaH jaS jan jbD jaE jar jaL jah jhS jcn jaz jaG jab jaT z0_s jaq jai jdj jh9 jat jau jav jaj jas jaJ jak jad jay ji3 jeR cyI ji8 ja5 cyI jbv je2 cyI ji9 jb9 cyI jdH jfM cyI jjB jbJ cyI jcx jdj cyI jgu jaT cyI f22 jdO cyI jil) := by rw [ef22]; exact hD
      exact ((W.vret hx hb hr (fun t ht hW => ⟨⟨(jaN, jaC, jbw, jbv, jdH, jcx, jbD, jh9, jhS, ji3, jcn, jgu, f22), rfl, hw, by rw [ht]; exact hP, va_K.moved hW.alike hK, hD⟩, hS.F ht⟩) hS.2.2 (qaa qay4 0 rfl)))
    · have hw := hw.2 c21
      refine lv_aload_n hx hb (qaa qhg 15 rfl) rfl (lv_at hl 0 rfl) ?_
      refine va_get (D := (dC, dI)) (ci := 11) (v := .ref jaT) (C := RX11) (T := TX11) (N := 55) hx hb hts qbV hown hK hP 0 rfl rfl 39 (by decide) (hts _ qCo) (fun _ h9 => h9) rfl (qaa qhJ 0 rfl) ?_
      refine lv_bipush (v := 30) hx hb (qaa qhJ 1 rfl) (by decide) ?_
      refine lv_iload_n hx hb (qaa qhJ 2 rfl) rfl (lv_at hl 1 rfl) ?_
      refine lv_iadd hx hb (qaa qhJ 3 rfl) ?_
      refine lv_topi (fun x23 ex23 => ?_)
      have hw := hw x23 ex23
      refine lv_aload_n hx hb (qaa qhJ 4 rfl) rfl (lv_at hl 0 rfl) ?_
      refine va_get (D := (dC, dI)) (ci := 11) (v := .ref jdO) (C := RX11) (T := TX11) (N := 55) hx hb hts qbV hown hK hP 0 rfl rfl 13 (by decide) (hts _ qaz1) (fun _ h9 => h9) rfl (qaa qhJ 5 rfl) ?_
      refine lv_iload_n hx hb (qaa qhJ 6 rfl) rfl (lv_at hl 1 rfl) ?_
      obtain ⟨hi9, hw⟩ := hw
      refine va_iald hx hb hK hP 9 1 rfl rfl hi9 (qaa qhJ 7 rfl) ?_
      refine lv_topi (fun x24 ex24 => ?_)
      have hw := hw x24 ex24
      obtain ⟨hi9, hw⟩ := hw
      refine va_iast hx hb hK hP hD hS 8 1 rfl rfl hi9 (qaa qhJ 8 rfl) (fun H locs hP hD hS => ?_)
      obtain ⟨f25, ef25⟩ : ∃ y : NI, y = upd jb0 x23.toNatClampNeg x24 := ⟨_, rfl⟩
      have hw := hw f25 ef25
      have hP : va_P (dC, dI) vwCl (qhe a0 jaX jaF jaD ja7 jby jbf jaM jaY jap jaK jeR je2 jfM jdO ja5 jb9 jbJ jg3 jge jg8 jaN jaC jbw jaw jaI jaZ jaH jaS jan jbD jaE jar jaL jah jhS jcn jaz jaG jab jaT z0_s jaq jai jdj jh9 jat jau jav jaj jas jaJ jak jad jay ji3 jeR cyI ji8 ja5 cyI jbv je2 cyI ji9 jb9 cyI jdH jfM cyI jjB jbJ cyI jcx jdj cyI jgu jaT cyI f25 jdO cyI jil) H := by rw [ef25]; exact hP
      have hD : va_D A (qhe a0 jaX jaF jaD ja7 jby jbf jaM jaY jap jaK jeR je2 jfM jdO ja5 jb9 jbJ jg3 jge jg8 jaN jaC jbw jaw jaI jaZ jaH jaS jan jbD jaE jar jaL jah jhS jcn jaz jaG jab jaT z0_s jaq jai jdj jh9 jat jau jav jaj jas jaJ jak jad jay ji3 jeR cyI ji8 ja5 cyI jbv je2 cyI ji9 jb9 cyI jdH jfM cyI jjB jbJ cyI jcx jdj cyI jgu jaT cyI f25 jdO cyI jil) := by rw [ef25]; exact hD
      obtain ⟨x26, ex26⟩ : ∃ y : Int32, y = l1 + 1 := ⟨_, rfl⟩
      have hw := hw x26 ex26
      refine lv_iinc (v := x26) (lv' := [(1, .int x26), (0, .ref a0)]) hx hb (qaa qhJ 9 rfl) hl (k := 1) rfl (by rw [ex26]; rfl) (by decide) rfl (fun ls hl => ?_)
      refine lv_goto (tgt := 186) hx hb (qaa qhJ 10 rfl) (by decide) ?_
      exact ih _ _ _ jaN jaC jbw jbv jdH jcx jbD jh9 jhS ji3 jcn jgu f25 x26 hP hD hS (lv_sub hl [1, 0] rfl) hw
set_option maxHeartbeats 4000000 in
set_option maxRecDepth 100000 in
theorem qazi {p : Program} {l : Launch} {e : Env} {s : State} {m : MethodId} {args : Array Value} {below : List Frame} {meth : Method} {c : Code} {A : Nat → Prop} (dC : Nat → ClassId) (dI : Nat → Nat → Nat) (cyB cyI cyJ cyP : ClassId) (a0 jeR ja5 je2 jb9 jfM jbJ jdj jaT jdO : Nat) (jaX jaF jaD ja7 jby jbf jaM jaY jap jaK jaw jaI jaZ jaH jaS jan jaE jar jaL jah jaz jaG jab z0_s jaq jai jat jau jav jaj jas jaJ jak jad jay : Value) (jg3 jge jg8 : Int32) (ji8 ji9 jjB jil : NI) (Q : Int32 → Int32 → Int32 → NI → NI → NI → Int32 → Int32 → Int32 → Int32 → Int32 → NI → NI → Prop) (C0 : cfx p s m args meth c cX11_sets none wsX11_sets RX11 2 A (dC, dI) (kT cyB cyI cyJ cyP)) : ∀ (n : Nat) (H : Heap) (locs : List Loc) (ls : Array Slot) (jaN jaC jbw : Int32) (jbv jdH jcx : NI) (jbD jh9 jhS ji3 jcn : Int32) (jgu jb0 : NI) (l1 : Int32), va_P (dC, dI) vwCl (qhe a0 jaX jaF jaD ja7 jby jbf jaM jaY jap jaK jeR je2 jfM jdO ja5 jb9 jbJ jg3 jge jg8 jaN jaC jbw jaw jaI jaZ jaH jaS jan jbD jaE jar jaL jah jhS jcn jaz jaG jab jaT z0_s jaq jai jdj jh9 jat jau jav jaj jas jaJ jak jad jay ji3 jeR cyI ji8 ja5 cyI jbv je2 cyI ji9 jb9 cyI jdH jfM cyI jjB jbJ cyI jcx jdj cyI jgu jaT cyI jb0 jdO cyI jil) H → va_D A (qhe a0 jaX jaF jaD ja7 jby jbf jaM jaY jap jaK jeR je2 jfM jdO ja5 jb9 jbJ jg3 jge jg8 jaN jaC jbw jaw jaI jaZ jaH jaS jan jbD jaE jar jaL jah jhS jcn jaz jaG jab jaT z0_s jaq jai jdj jh9 jat jau jav jaj jas jaJ jak jad jay ji3 jeR cyI ji8 ja5 cyI jbv je2 cyI ji9 jb9 cyI jdH jfM cyI jjB jbJ cyI jcx jdj cyI jgu jaT cyI jb0 jdO cyI jil) → va_S A s.heap H locs → lv_has ls 2 [(0, .ref a0), (1, .int l1)] → qHN jg3 jge jg8 ji8 ji9 jjB jil Q n jaN jaC jbw jbv jdH jcx jbD jh9 jhS ji3 jcn jgu jb0 l1 → W p l e (headSpec wsX11_sets ({ frames := 1, cells := 0, slots := 0, locals := 24 })).room s m args below meth c H locs 0 0 (MQ below (va_Qv (fun (u : Int32 × Int32 × Int32 × NI × NI × NI × Int32 × Int32 × Int32 × Int32 × Int32 × NI × NI) => Q u.1 u.2.1 u.2.2.1 u.2.2.2.1 u.2.2.2.2.1 u.2.2.2.2.2.1 u.2.2.2.2.2.2.1 u.2.2.2.2.2.2.2.1 u.2.2.2.2.2.2.2.2.1 u.2.2.2.2.2.2.2.2.2.1 u.2.2.2.2.2.2.2.2.2.2.1 u.2.2.2.2.2.2.2.2.2.2.2.1 u.2.2.2.2.2.2.2.2.2.2.2.2) (cB (dC, dI) (kT cyB cyI cyJ cyP) A (fun u : Int32 × Int32 × Int32 × NI × NI × NI × Int32 × Int32 × Int32 × Int32 × Int32 × NI × NI => ((qhe a0 jaX jaF jaD ja7 jby jbf jaM jaY jap jaK jeR je2 jfM jdO ja5 jb9 jbJ jg3 jge jg8 u.1 u.2.1 u.2.2.1 jaw jaI jaZ jaH jaS jan u.2.2.2.2.2.2.1 jaE jar jaL jah u.2.2.2.2.2.2.2.2.1 u.2.2.2.2.2.2.2.2.2.2.1 jaz jaG jab jaT z0_s jaq jai jdj u.2.2.2.2.2.2.2.1 jat jau jav jaj jas jaJ jak jad jay u.2.2.2.2.2.2.2.2.2.1 jeR cyI ji8 ja5 cyI u.2.2.2.1 je2 cyI ji9 jb9 cyI u.2.2.2.2.1 jfM cyI jjB jbJ cyI u.2.2.2.2.2.1 jdj cyI u.2.2.2.2.2.2.2.2.2.2.2.1 jaT cyI u.2.2.2.2.2.2.2.2.2.2.2.2 jdO cyI jil) : va_W))) A) args s 0 0 A) (F0 m 135 ls []) := by
  obtain ⟨hx, hb, hr, hts, hown, hlocks, hml, hA, hK, hNw⟩ := id C0
  intro n
  induction n with
  | zero => intro H locs ls jaN jaC jbw jbv jdH jcx jbD jh9 jhS ji3 jcn jgu jb0 l1 hP hD hS hl hw; exact False.elim hw
  | succ n ih =>
    intro H locs ls jaN jaC jbw jbv jdH jcx jbD jh9 jhS ji3 jcn jgu jb0 l1 hP hD hS hl hw
    refine lv_iload_n hx hb (qaa qgU 10 rfl) rfl (lv_at hl 1 rfl) ?_
    refine lv_aload_n hx hb (qaa qgU 11 rfl) rfl (lv_at hl 0 rfl) ?_
    refine va_get (D := (dC, dI)) (ci := 11) (v := .int jaC) (C := RX11) (T := TX11) (N := 55) hx hb hts qbV hown hK hP 0 rfl rfl 21 (by decide) (hts _ qZp) (fun _ h9 => h9) rfl (qaa qgU 12 rfl) ?_
    refine lv_icmp_ge (tgt := 184) hx hb (qaa qgU 13 rfl) (by decide) (fun c10 => ?_) (fun c10 => ?_)
    · have hw := hw.1 c10
      refine lv_iconst (v := 0) hx hb (qaa qhg 10 rfl) (by decide) ?_
      refine lv_istore_n (lv' := [(1, .int 0), (0, .ref a0)]) hx hb (qaa qhg 11 rfl) rfl hl (by decide) rfl (fun ls hl => ?_)
      obtain ⟨n9, hw⟩ := hw
      exact qazn dC dI cyB cyI cyJ cyP a0 jeR ja5 je2 jb9 jfM jbJ jdj jaT jdO jaX jaF jaD ja7 jby jbf jaM jaY jap jaK jaw jaI jaZ jaH jaS jan jaE jar jaL jah jaz jaG jab z0_s jaq jai jat jau jav jaj jas jaJ jak jad jay jg3 jge jg8 ji8 ji9 jjB jil Q C0 n9 _ _ _ jaN jaC jbw jbv jdH jcx jbD jh9 jhS ji3 jcn jgu jb0 0 hP hD hS (lv_sub hl [1, 0] rfl) hw
    · have hw := hw.2 c10
      refine lv_aload_n hx hb (qaa qgU 14 rfl) rfl (lv_at hl 0 rfl) ?_
      refine va_get (D := (dC, dI)) (ci := 11) (v := .ref jaT) (C := RX11) (T := TX11) (N := 55) hx hb hts qbV hown hK hP 0 rfl rfl 39 (by decide) (hts _ qCo) (fun _ h9 => h9) rfl (qaa qgU 15 rfl) ?_
      refine lv_iconst (v := 0) hx hb (qaa qhd 0 rfl) (by decide) ?_
      refine lv_iload_n hx hb (qaa qhd 1 rfl) rfl (lv_at hl 1 rfl) ?_
      refine lv_iadd hx hb (qaa qhd 2 rfl) ?_
      refine lv_topi (fun x11 ex11 => ?_)
      have hw := hw x11 ex11
      refine lv_aload_n hx hb (qaa qhd 3 rfl) rfl (lv_at hl 0 rfl) ?_
      refine va_get (D := (dC, dI)) (ci := 11) (v := .ref jb9) (C := RX11) (T := TX11) (N := 55) hx hb hts qbV hown hK hP 0 rfl rfl 15 (by decide) (hts _ qPD) (fun _ h9 => h9) rfl (qaa qhd 4 rfl) ?_
      refine lv_iconst (v := 2) hx hb (qaa qhd 5 rfl) (by decide) ?_
      refine lv_iload_n hx hb (qaa qhd 6 rfl) rfl (lv_at hl 1 rfl) ?_
      refine lv_imul hx hb (qaa qhd 7 rfl) ?_
      refine lv_topi (fun x12 ex12 => ?_)
      have hw := hw x12 ex12
      obtain ⟨hi9, hw⟩ := hw
      refine va_iald hx hb hK hP 4 1 rfl rfl hi9 (qaa qhd 8 rfl) ?_
      refine lv_topi (fun x13 ex13 => ?_)
      have hw := hw x13 ex13
      obtain ⟨hi9, hw⟩ := hw
      refine va_iast hx hb hK hP hD hS 8 1 rfl rfl hi9 (qaa qhd 9 rfl) (fun H locs hP hD hS => ?_)
      obtain ⟨f14, ef14⟩ : ∃ y : NI, y = upd jb0 x11.toNatClampNeg x13 := ⟨_, rfl⟩
      have hw := hw f14 ef14
      have hP : va_P (dC, dI) vwCl (qhe a0 jaX jaF jaD ja7 jby jbf jaM jaY jap jaK jeR je2 jfM jdO ja5 jb9 jbJ jg3 jge jg8 jaN jaC jbw jaw jaI jaZ jaH jaS jan jbD jaE jar jaL jah jhS jcn jaz jaG jab jaT z0_s jaq jai jdj jh9 jat jau jav jaj jas jaJ jak jad jay ji3 jeR cyI ji8 ja5 cyI jbv je2 cyI ji9 jb9 cyI jdH jfM cyI jjB jbJ cyI jcx jdj cyI jgu jaT cyI f14 jdO cyI jil) H := by rw [ef14]; exact hP
      have hD : va_D A (qhe a0 jaX jaF jaD ja7 jby jbf jaM jaY jap jaK jeR je2 jfM jdO ja5 jb9 jbJ jg3 jge jg8 jaN jaC jbw jaw jaI jaZ jaH jaS jan jbD jaE jar jaL jah jhS jcn jaz jaG jab jaT z0_s jaq jai jdj jh9 jat jau jav jaj jas jaJ jak jad jay ji3 jeR cyI ji8 ja5 cyI jbv je2 cyI ji9 jb9 cyI jdH jfM cyI jjB jbJ cyI jcx jdj cyI jgu jaT cyI f14 jdO cyI jil) := by rw [ef14]; exact hD
      refine lv_aload_n hx hb (qaa qhd 10 rfl) rfl (lv_at hl 0 rfl) ?_
      refine va_get (D := (dC, dI)) (ci := 11) (v := .ref jaT) (C := RX11) (T := TX11) (N := 55) hx hb hts qbV hown hK hP 0 rfl rfl 39 (by decide) (hts _ qCo) (fun _ h9 => h9) rfl (qaa qhd 11 rfl) ?_
      refine lv_bipush (v := 6) hx hb (qaa qhd 12 rfl) (by decide) ?_
      refine lv_iload_n hx hb (qaa qhd 13 rfl) rfl (lv_at hl 1 rfl) ?_
      refine lv_iadd hx hb (qaa qhd 14 rfl) ?_
      refine lv_topi (fun x15 ex15 => ?_)
      have hw := hw x15 ex15
      refine lv_aload_n hx hb (qaa qhd 15 rfl) rfl (lv_at hl 0 rfl) ?_
      refine va_get (D := (dC, dI)) (ci := 11) (v := .ref jb9) (C := RX11) (T := TX11) (N := 55) hx hb hts qbV hown hK hP 0 rfl rfl 15 (by decide) (hts _ qPD) (fun _ h9 => h9) rfl (qaa qhg 0 rfl) ?_
      refine lv_iconst (v := 2) hx hb (qaa qhg 1 rfl) (by decide) ?_
      refine lv_iload_n hx hb (qaa qhg 2 rfl) rfl (lv_at hl 1 rfl) ?_
      refine lv_imul hx hb (qaa qhg 3 rfl) ?_
      refine lv_topi (fun x16 ex16 => ?_)
      have hw := hw x16 ex16
      refine lv_iconst (v := 1) hx hb (qaa qhg 4 rfl) (by decide) ?_
      refine lv_iadd hx hb (qaa qhg 5 rfl) ?_
      refine lv_topi (fun x17 ex17 => ?_)
      have hw := hw x17 ex17
      obtain ⟨hi9, hw⟩ := hw
      refine va_iald hx hb hK hP 4 1 rfl rfl hi9 (qaa qhg 6 rfl) ?_
      refine lv_topi (fun x18 ex18 => ?_)
      have hw := hw x18 ex18
      obtain ⟨hi9, hw⟩ := hw
      refine va_iast hx hb hK hP hD hS 8 1 rfl rfl hi9 (qaa qhg 7 rfl) (fun H locs hP hD hS => ?_)
      obtain ⟨f19, ef19⟩ : ∃ y : NI, y = upd f14 x15.toNatClampNeg x18 := ⟨_, rfl⟩
      have hw := hw f19 ef19
      have hP : va_P (dC, dI) vwCl (qhe a0 jaX jaF jaD ja7 jby jbf jaM jaY jap jaK jeR je2 jfM jdO ja5 jb9 jbJ jg3 jge jg8 jaN jaC jbw jaw jaI jaZ jaH jaS jan jbD jaE jar jaL jah jhS jcn jaz jaG jab jaT z0_s jaq jai jdj jh9 jat jau jav jaj jas jaJ jak jad jay ji3 jeR cyI ji8 ja5 cyI jbv je2 cyI ji9 jb9 cyI jdH jfM cyI jjB jbJ cyI jcx jdj cyI jgu jaT cyI f19 jdO cyI jil) H := by rw [ef19]; exact hP
      have hD : va_D A (qhe a0 jaX jaF jaD ja7 jby jbf jaM jaY jap jaK jeR je2 jfM jdO ja5 jb9 jbJ jg3 jge jg8 jaN jaC jbw jaw jaI jaZ jaH jaS jan jbD jaE jar jaL jah jhS jcn jaz jaG jab jaT z0_s jaq jai jdj jh9 jat jau jav jaj jas jaJ jak jad jay ji3 jeR cyI ji8 ja5 cyI jbv je2 cyI ji9 jb9 cyI jdH jfM cyI jjB jbJ cyI jcx jdj cyI jgu jaT cyI f19 jdO cyI jil) := by rw [ef19]; exact hD
      obtain ⟨x20, ex20⟩ : ∃ y : Int32, y = l1 + 1 := ⟨_, rfl⟩
      have hw := hw x20 ex20
      refine lv_iinc (v := x20) (lv' := [(1, .int x20), (0, .ref a0)]) hx hb (qaa qhg 8 rfl) hl (k := 1) rfl (by rw [ex20]; rfl) (by decide) rfl (fun ls hl => ?_)
      refine lv_goto (tgt := 135) hx hb (qaa qhg 9 rfl) (by decide) ?_
      exact ih _ _ _ jaN jaC jbw jbv jdH jcx jbD jh9 jhS ji3 jcn jgu f19 x20 hP hD hS (lv_sub hl [1, 0] rfl) hw
set_option maxHeartbeats 4000000 in
set_option maxRecDepth 100000 in
theorem qaBT {p : Program} {l : Launch} {e : Env} {s : State} {m : MethodId} {args : Array Value} {below : List Frame} {meth : Method} {c : Code} {A : Nat → Prop} (dC : Nat → ClassId) (dI : Nat → Nat → Nat) (cyB cyI cyJ cyP : ClassId) (a0 jeR ja5 je2 jb9 jfM jbJ jdj jaT jdO : Nat) (jaX jaF jaD ja7 jby jbf jaM jaY jap jaK jaw jaI jaZ jaH jaS jan jaE jar jaL jah jaz jaG jab z0_s jaq jai jat jau jav jaj jas jaJ jak jad jay : Value) (jg3 jge jg8 : Int32) (ji8 ji9 jjB jil : NI) (Q : Int32 → Int32 → Int32 → NI → NI → NI → Int32 → Int32 → Int32 → Int32 → Int32 → NI → NI → Prop) (C0 : cfx p s m args meth c cX11_sets none wsX11_sets RX11 2 A (dC, dI) (kT cyB cyI cyJ cyP)) : ∀ (n : Nat) (H : Heap) (locs : List Loc) (ls : Array Slot) (jaN jaC jbw : Int32) (jbv jdH jcx : NI) (jbD jh9 jhS ji3 jcn : Int32) (jgu jb0 : NI) (l1 : Int32), va_P (dC, dI) vwCl (qhe a0 jaX jaF jaD ja7 jby jbf jaM jaY jap jaK jeR je2 jfM jdO ja5 jb9 jbJ jg3 jge jg8 jaN jaC jbw jaw jaI jaZ jaH jaS jan jbD jaE jar jaL jah jhS jcn jaz jaG jab jaT z0_s jaq jai jdj jh9 jat jau jav jaj jas jaJ jak jad jay ji3 jeR cyI ji8 ja5 cyI jbv je2 cyI ji9 jb9 cyI jdH jfM cyI jjB jbJ cyI jcx jdj cyI jgu jaT cyI jb0 jdO cyI jil) H → va_D A (qhe a0 jaX jaF jaD ja7 jby jbf jaM jaY jap jaK jeR je2 jfM jdO ja5 jb9 jbJ jg3 jge jg8 jaN jaC jbw jaw jaI jaZ jaH jaS jan jbD jaE jar jaL jah jhS jcn jaz jaG jab jaT z0_s jaq jai jdj jh9 jat jau jav jaj jas jaJ jak jad jay ji3 jeR cyI ji8 ja5 cyI jbv je2 cyI ji9 jb9 cyI jdH jfM cyI jjB jbJ cyI jcx jdj cyI jgu jaT cyI jb0 jdO cyI jil) → va_S A s.heap H locs → lv_has ls 2 [(0, .ref a0), (1, .int l1)] → qGT jg3 jge jg8 ji8 ji9 jjB jil Q n jaN jaC jbw jbv jdH jcx jbD jh9 jhS ji3 jcn jgu jb0 l1 → W p l e (headSpec wsX11_sets ({ frames := 1, cells := 0, slots := 0, locals := 24 })).room s m args below meth c H locs 0 0 (MQ below (va_Qv (fun (u : Int32 × Int32 × Int32 × NI × NI × NI × Int32 × Int32 × Int32 × Int32 × Int32 × NI × NI) => Q u.1 u.2.1 u.2.2.1 u.2.2.2.1 u.2.2.2.2.1 u.2.2.2.2.2.1 u.2.2.2.2.2.2.1 u.2.2.2.2.2.2.2.1 u.2.2.2.2.2.2.2.2.1 u.2.2.2.2.2.2.2.2.2.1 u.2.2.2.2.2.2.2.2.2.2.1 u.2.2.2.2.2.2.2.2.2.2.2.1 u.2.2.2.2.2.2.2.2.2.2.2.2) (cB (dC, dI) (kT cyB cyI cyJ cyP) A (fun u : Int32 × Int32 × Int32 × NI × NI × NI × Int32 × Int32 × Int32 × Int32 × Int32 × NI × NI => ((qhe a0 jaX jaF jaD ja7 jby jbf jaM jaY jap jaK jeR je2 jfM jdO ja5 jb9 jbJ jg3 jge jg8 u.1 u.2.1 u.2.2.1 jaw jaI jaZ jaH jaS jan u.2.2.2.2.2.2.1 jaE jar jaL jah u.2.2.2.2.2.2.2.2.1 u.2.2.2.2.2.2.2.2.2.2.1 jaz jaG jab jaT z0_s jaq jai jdj u.2.2.2.2.2.2.2.1 jat jau jav jaj jas jaJ jak jad jay u.2.2.2.2.2.2.2.2.2.1 jeR cyI ji8 ja5 cyI u.2.2.2.1 je2 cyI ji9 jb9 cyI u.2.2.2.2.1 jfM cyI jjB jbJ cyI u.2.2.2.2.2.1 jdj cyI u.2.2.2.2.2.2.2.2.2.2.2.1 jaT cyI u.2.2.2.2.2.2.2.2.2.2.2.2 jdO cyI jil) : va_W))) A) args s 0 0 A) (F0 m 114 ls []) := by
  obtain ⟨hx, hb, hr, hts, hown, hlocks, hml, hA, hK, hNw⟩ := id C0
  intro n
  induction n with
  | zero => intro H locs ls jaN jaC jbw jbv jdH jcx jbD jh9 jhS ji3 jcn jgu jb0 l1 hP hD hS hl hw; exact False.elim hw
  | succ n ih =>
    intro H locs ls jaN jaC jbw jbv jdH jcx jbD jh9 jhS ji3 jcn jgu jb0 l1 hP hD hS hl hw
    refine lv_iload_n hx hb (qaa qky 14 rfl) rfl (lv_at hl 1 rfl) ?_
    refine lv_bipush (v := 68) hx hb (qaa qky 15 rfl) (by decide) ?_
    refine lv_icmp_ge (tgt := 133) hx hb (qaa qgU 0 rfl) (by decide) (fun c7 => ?_) (fun c7 => ?_)
    · have hw := hw.1 c7
      refine lv_iconst (v := 0) hx hb (qaa qgU 8 rfl) (by decide) ?_
      refine lv_istore_n (lv' := [(1, .int 0), (0, .ref a0)]) hx hb (qaa qgU 9 rfl) rfl hl (by decide) rfl (fun ls hl => ?_)
      obtain ⟨n9, hw⟩ := hw
      exact qazi dC dI cyB cyI cyJ cyP a0 jeR ja5 je2 jb9 jfM jbJ jdj jaT jdO jaX jaF jaD ja7 jby jbf jaM jaY jap jaK jaw jaI jaZ jaH jaS jan jaE jar jaL jah jaz jaG jab z0_s jaq jai jat jau jav jaj jas jaJ jak jad jay jg3 jge jg8 ji8 ji9 jjB jil Q C0 n9 _ _ _ jaN jaC jbw jbv jdH jcx jbD jh9 jhS ji3 jcn jgu jb0 0 hP hD hS (lv_sub hl [1, 0] rfl) hw
    · have hw := hw.2 c7
      refine lv_aload_n hx hb (qaa qgU 1 rfl) rfl (lv_at hl 0 rfl) ?_
      refine va_get (D := (dC, dI)) (ci := 11) (v := .ref jaT) (C := RX11) (T := TX11) (N := 55) hx hb hts qbV hown hK hP 0 rfl rfl 39 (by decide) (hts _ qCo) (fun _ h9 => h9) rfl (qaa qgU 2 rfl) ?_
      refine lv_iload_n hx hb (qaa qgU 3 rfl) rfl (lv_at hl 1 rfl) ?_
      refine lv_iconst (v := 0) hx hb (qaa qgU 4 rfl) (by decide) ?_
      obtain ⟨hi9, hw⟩ := hw
      refine va_iast hx hb hK hP hD hS 8 1 rfl rfl hi9 (qaa qgU 5 rfl) (fun H locs hP hD hS => ?_)
      obtain ⟨f8, ef8⟩ : ∃ y : NI, y = upd jb0 l1.toNatClampNeg 0 := ⟨_, rfl⟩
      have hw := hw f8 ef8
      have hP : va_P (dC, dI) vwCl (qhe a0 jaX jaF jaD ja7 jby jbf jaM jaY jap jaK jeR je2 jfM jdO ja5 jb9 jbJ jg3 jge jg8 jaN jaC jbw jaw jaI jaZ jaH jaS jan jbD jaE jar jaL jah jhS jcn jaz jaG jab jaT z0_s jaq jai jdj jh9 jat jau jav jaj jas jaJ jak jad jay ji3 jeR cyI ji8 ja5 cyI jbv je2 cyI ji9 jb9 cyI jdH jfM cyI jjB jbJ cyI jcx jdj cyI jgu jaT cyI f8 jdO cyI jil) H := by rw [ef8]; exact hP
      have hD : va_D A (qhe a0 jaX jaF jaD ja7 jby jbf jaM jaY jap jaK jeR je2 jfM jdO ja5 jb9 jbJ jg3 jge jg8 jaN jaC jbw jaw jaI jaZ jaH jaS jan jbD jaE jar jaL jah jhS jcn jaz jaG jab jaT z0_s jaq jai jdj jh9 jat jau jav jaj jas jaJ jak jad jay ji3 jeR cyI ji8 ja5 cyI jbv je2 cyI ji9 jb9 cyI jdH jfM cyI jjB jbJ cyI jcx jdj cyI jgu jaT cyI f8 jdO cyI jil) := by rw [ef8]; exact hD
      obtain ⟨x9, ex9⟩ : ∃ y : Int32, y = l1 + 1 := ⟨_, rfl⟩
      have hw := hw x9 ex9
      refine lv_iinc (v := x9) (lv' := [(1, .int x9), (0, .ref a0)]) hx hb (qaa qgU 6 rfl) hl (k := 1) rfl (by rw [ex9]; rfl) (by decide) rfl (fun ls hl => ?_)
      refine lv_goto (tgt := 114) hx hb (qaa qgU 7 rfl) (by decide) ?_
      exact ih _ _ _ jaN jaC jbw jbv jdH jcx jbD jh9 jhS ji3 jcn jgu f8 x9 hP hD hS (lv_sub hl [1, 0] rfl) hw
set_option maxHeartbeats 4000000 in
set_option maxRecDepth 100000 in
theorem qaJR {p : Program} {l : Launch} {e : Env} {s : State} {m : MethodId} {args : Array Value} {below : List Frame} {meth : Method} {c : Code} {A : Nat → Prop} (dC : Nat → ClassId) (dI : Nat → Nat → Nat) (cyB cyI cyJ cyP : ClassId) (a0 jeR ja5 je2 jb9 jfM jbJ jdj jaT jdO : Nat) (jaX jaF jaD ja7 jby jbf jaM jaY jap jaK jaw jaI jaZ jaH jaS jan jaE jar jaL jah jaz jaG jab z0_s jaq jai jat jau jav jaj jas jaJ jak jad jay : Value) (jg3 jge jg8 : Int32) (ji8 ji9 jjB jil : NI) (Q : Int32 → Int32 → Int32 → NI → NI → NI → Int32 → Int32 → Int32 → Int32 → Int32 → NI → NI → Prop) (C0 : cfx p s m args meth c cX11_sets none wsX11_sets RX11 2 A (dC, dI) (kT cyB cyI cyJ cyP)) : ∀ (n : Nat) (H : Heap) (locs : List Loc) (ls : Array Slot) (jaN jaC jbw : Int32) (jbv jdH jcx : NI) (jbD jh9 jhS ji3 jcn : Int32) (jgu jb0 : NI) (l1 : Int32), va_P (dC, dI) vwCl (qhe a0 jaX jaF jaD ja7 jby jbf jaM jaY jap jaK jeR je2 jfM jdO ja5 jb9 jbJ jg3 jge jg8 jaN jaC jbw jaw jaI jaZ jaH jaS jan jbD jaE jar jaL jah jhS jcn jaz jaG jab jaT z0_s jaq jai jdj jh9 jat jau jav jaj jas jaJ jak jad jay ji3 jeR cyI ji8 ja5 cyI jbv je2 cyI ji9 jb9 cyI jdH jfM cyI jjB jbJ cyI jcx jdj cyI jgu jaT cyI jb0 jdO cyI jil) H → va_D A (qhe a0 jaX jaF jaD ja7 jby jbf jaM jaY jap jaK jeR je2 jfM jdO ja5 jb9 jbJ jg3 jge jg8 jaN jaC jbw jaw jaI jaZ jaH jaS jan jbD jaE jar jaL jah jhS jcn jaz jaG jab jaT z0_s jaq jai jdj jh9 jat jau jav jaj jas jaJ jak jad jay ji3 jeR cyI ji8 ja5 cyI jbv je2 cyI ji9 jb9 cyI jdH jfM cyI jjB jbJ cyI jcx jdj cyI jgu jaT cyI jb0 jdO cyI jil) → va_S A s.heap H locs → lv_has ls 2 [(0, .ref a0), (1, .int l1)] → qKP jg3 jge jg8 ji8 ji9 jjB jil Q n jaN jaC jbw jbv jdH jcx jbD jh9 jhS ji3 jcn jgu jb0 l1 → W p l e (headSpec wsX11_sets ({ frames := 1, cells := 0, slots := 0, locals := 24 })).room s m args below meth c H locs 0 0 (MQ below (va_Qv (fun (u : Int32 × Int32 × Int32 × NI × NI × NI × Int32 × Int32 × Int32 × Int32 × Int32 × NI × NI) => Q u.1 u.2.1 u.2.2.1 u.2.2.2.1 u.2.2.2.2.1 u.2.2.2.2.2.1 u.2.2.2.2.2.2.1 u.2.2.2.2.2.2.2.1 u.2.2.2.2.2.2.2.2.1 u.2.2.2.2.2.2.2.2.2.1 u.2.2.2.2.2.2.2.2.2.2.1 u.2.2.2.2.2.2.2.2.2.2.2.1 u.2.2.2.2.2.2.2.2.2.2.2.2) (cB (dC, dI) (kT cyB cyI cyJ cyP) A (fun u : Int32 × Int32 × Int32 × NI × NI × NI × Int32 × Int32 × Int32 × Int32 × Int32 × NI × NI => ((qhe a0 jaX jaF jaD ja7 jby jbf jaM jaY jap jaK jeR je2 jfM jdO ja5 jb9 jbJ jg3 jge jg8 u.1 u.2.1 u.2.2.1 jaw jaI jaZ jaH jaS jan u.2.2.2.2.2.2.1 jaE jar jaL jah u.2.2.2.2.2.2.2.2.1 u.2.2.2.2.2.2.2.2.2.2.1 jaz jaG jab jaT z0_s jaq jai jdj u.2.2.2.2.2.2.2.1 jat jau jav jaj jas jaJ jak jad jay u.2.2.2.2.2.2.2.2.2.1 jeR cyI ji8 ja5 cyI u.2.2.2.1 je2 cyI ji9 jb9 cyI u.2.2.2.2.1 jfM cyI jjB jbJ cyI u.2.2.2.2.2.1 jdj cyI u.2.2.2.2.2.2.2.2.2.2.2.1 jaT cyI u.2.2.2.2.2.2.2.2.2.2.2.2 jdO cyI jil) : va_W))) A) args s 0 0 A) (F0 m 93 ls []) := by
  obtain ⟨hx, hb, hr, hts, hown, hlocks, hml, hA, hK, hNw⟩ := id C0
  intro n
  induction n with
  | zero => intro H locs ls jaN jaC jbw jbv jdH jcx jbD jh9 jhS ji3 jcn jgu jb0 l1 hP hD hS hl hw; exact False.elim hw
  | succ n ih =>
    intro H locs ls jaN jaC jbw jbv jdH jcx jbD jh9 jhS ji3 jcn jgu jb0 l1 hP hD hS hl hw
    refine lv_iload_n hx hb (qaa qky 2 rfl) rfl (lv_at hl 1 rfl) ?_
    refine lv_bipush (v := 8) hx hb (qaa qky 3 rfl) (by decide) ?_
    refine lv_icmp_ge (tgt := 112) hx hb (qaa qky 4 rfl) (by decide) (fun c4 => ?_) (fun c4 => ?_)
    · have hw := hw.1 c4
      refine lv_iconst (v := 0) hx hb (qaa qky 12 rfl) (by decide) ?_
      refine lv_istore_n (lv' := [(1, .int 0), (0, .ref a0)]) hx hb (qaa qky 13 rfl) rfl hl (by decide) rfl (fun ls hl => ?_)
      obtain ⟨n9, hw⟩ := hw
      exact qaBT dC dI cyB cyI cyJ cyP a0 jeR ja5 je2 jb9 jfM jbJ jdj jaT jdO jaX jaF jaD ja7 jby jbf jaM jaY jap jaK jaw jaI jaZ jaH jaS jan jaE jar jaL jah jaz jaG jab z0_s jaq jai jat jau jav jaj jas jaJ jak jad jay jg3 jge jg8 ji8 ji9 jjB jil Q C0 n9 _ _ _ jaN jaC jbw jbv jdH jcx jbD jh9 jhS ji3 jcn jgu jb0 0 hP hD hS (lv_sub hl [1, 0] rfl) hw
    · have hw := hw.2 c4
      refine lv_aload_n hx hb (qaa qky 5 rfl) rfl (lv_at hl 0 rfl) ?_
      refine va_get (D := (dC, dI)) (ci := 11) (v := .ref jdj) (C := RX11) (T := TX11) (N := 55) hx hb hts qbV hown hK hP 0 rfl rfl 43 (by decide) (hts _ qavi) (fun _ h9 => h9) rfl (qaa qky 6 rfl) ?_
      refine lv_iload_n hx hb (qaa qky 7 rfl) rfl (lv_at hl 1 rfl) ?_
      refine lv_iconst (v := (-1)) hx hb (qaa qky 8 rfl) (by decide) ?_
      obtain ⟨hi9, hw⟩ := hw
      refine va_iast hx hb hK hP hD hS 7 1 rfl rfl hi9 (qaa qky 9 rfl) (fun H locs hP hD hS => ?_)
      obtain ⟨f5, ef5⟩ : ∃ y : NI, y = upd jgu l1.toNatClampNeg (-1) := ⟨_, rfl⟩
      have hw := hw f5 ef5
      have hP : va_P (dC, dI) vwCl (qhe a0 jaX jaF jaD ja7 jby jbf jaM jaY jap jaK jeR je2 jfM jdO ja5 jb9 jbJ jg3 jge jg8 jaN jaC jbw jaw jaI jaZ jaH jaS jan jbD jaE jar jaL jah jhS jcn jaz jaG jab jaT z0_s jaq jai jdj jh9 jat jau jav jaj jas jaJ jak jad jay ji3 jeR cyI ji8 ja5 cyI jbv je2 cyI ji9 jb9 cyI jdH jfM cyI jjB jbJ cyI jcx jdj cyI f5 jaT cyI jb0 jdO cyI jil) H := by rw [ef5]; exact hP
      have hD : va_D A (qhe a0 jaX jaF jaD ja7 jby jbf jaM jaY jap jaK jeR je2 jfM jdO ja5 jb9 jbJ jg3 jge jg8 jaN jaC jbw jaw jaI jaZ jaH jaS jan jbD jaE jar jaL jah jhS jcn jaz jaG jab jaT z0_s jaq jai jdj jh9 jat jau jav jaj jas jaJ jak jad jay ji3 jeR cyI ji8 ja5 cyI jbv je2 cyI ji9 jb9 cyI jdH jfM cyI jjB jbJ cyI jcx jdj cyI f5 jaT cyI jb0 jdO cyI jil) := by rw [ef5]; exact hD
      obtain ⟨x6, ex6⟩ : ∃ y : Int32, y = l1 + 1 := ⟨_, rfl⟩
      have hw := hw x6 ex6
      refine lv_iinc (v := x6) (lv' := [(1, .int x6), (0, .ref a0)]) hx hb (qaa qky 10 rfl) hl (k := 1) rfl (by rw [ex6]; rfl) (by decide) rfl (fun ls hl => ?_)
      refine lv_goto (tgt := 93) hx hb (qaa qky 11 rfl) (by decide) ?_
      exact ih _ _ _ jaN jaC jbw jbv jdH jcx jbD jh9 jhS ji3 jcn f5 jb0 x6 hP hD hS (lv_sub hl [1, 0] rfl) hw
set_option maxHeartbeats 4000000 in
set_option maxRecDepth 100000 in
theorem qaDa (l : Launch) (dC : Nat → ClassId) (dI : Nat → Nat → Nat) (cyB cyI cyJ cyP : ClassId) (a0 jeR ja5 je2 jb9 jfM jbJ jdj jaT jdO sz : Nat) (jaX jaF jaD ja7 jby jbf jaM jaY jap jaK jaw jaI jaZ jaH jaS jan jaE jar jaL jah jaz jaG jab z0_s jaq jai jat jau jav jaj jas jaJ jak jad jay : Value) (jg3 jge jg8 : Int32) (ji8 ji9 jjB jil : NI) (jaN jaC jbw : Int32) (jbv jdH jcx : NI) (jbD jh9 jhS ji3 jcn : Int32) (jgu jb0 : NI) {Q : Int32 → Int32 → Int32 → NI → NI → NI → Int32 → Int32 → Int32 → Int32 → Int32 → NI → NI → Prop} (hw : qXi jg3 jge jg8 ji8 ji9 jjB jil jaN jaC jbw jbv jdH jcx jbD jh9 jhS ji3 jcn jgu jb0 Q) : Met l yX11_sets wsX11_sets ({ frames := 1, cells := 0, slots := 0, locals := 24 }) (va_Pc [.ref a0] (cPc (dC, dI) (kT cyB cyI cyJ cyP) (qhe a0 jaX jaF jaD ja7 jby jbf jaM jaY jap jaK jeR je2 jfM jdO ja5 jb9 jbJ jg3 jge jg8 jaN jaC jbw jaw jaI jaZ jaH jaS jan jbD jaE jar jaL jah jhS jcn jaz jaG jab jaT z0_s jaq jai jdj jh9 jat jau jav jaj jas jaJ jak jad jay ji3 jeR cyI ji8 ja5 cyI jbv je2 cyI ji9 jb9 cyI jdH jfM cyI jjB jbJ cyI jcx jdj cyI jgu jaT cyI jb0 jdO cyI jil) sz)) (va_Qv (fun (u : Int32 × Int32 × Int32 × NI × NI × NI × Int32 × Int32 × Int32 × Int32 × Int32 × NI × NI) => Q u.1 u.2.1 u.2.2.1 u.2.2.2.1 u.2.2.2.2.1 u.2.2.2.2.2.1 u.2.2.2.2.2.2.1 u.2.2.2.2.2.2.2.1 u.2.2.2.2.2.2.2.2.1 u.2.2.2.2.2.2.2.2.2.1 u.2.2.2.2.2.2.2.2.2.2.1 u.2.2.2.2.2.2.2.2.2.2.2.1 u.2.2.2.2.2.2.2.2.2.2.2.2) (cB (dC, dI) (kT cyB cyI cyJ cyP) (va_A (qhe a0 jaX jaF jaD ja7 jby jbf jaM jaY jap jaK jeR je2 jfM jdO ja5 jb9 jbJ jg3 jge jg8 jaN jaC jbw jaw jaI jaZ jaH jaS jan jbD jaE jar jaL jah jhS jcn jaz jaG jab jaT z0_s jaq jai jdj jh9 jat jau jav jaj jas jaJ jak jad jay ji3 jeR cyI ji8 ja5 cyI jbv je2 cyI ji9 jb9 cyI jdH jfM cyI jjB jbJ cyI jcx jdj cyI jgu jaT cyI jb0 jdO cyI jil) sz) (fun u : Int32 × Int32 × Int32 × NI × NI × NI × Int32 × Int32 × Int32 × Int32 × Int32 × NI × NI => ((qhe a0 jaX jaF jaD ja7 jby jbf jaM jaY jap jaK jeR je2 jfM jdO ja5 jb9 jbJ jg3 jge jg8 u.1 u.2.1 u.2.2.1 jaw jaI jaZ jaH jaS jan u.2.2.2.2.2.2.1 jaE jar jaL jah u.2.2.2.2.2.2.2.2.1 u.2.2.2.2.2.2.2.2.2.2.1 jaz jaG jab jaT z0_s jaq jai jdj u.2.2.2.2.2.2.2.1 jat jau jav jaj jas jaJ jak jad jay u.2.2.2.2.2.2.2.2.2.1 jeR cyI ji8 ja5 cyI u.2.2.2.1 je2 cyI ji9 jb9 cyI u.2.2.2.2.1 jfM cyI jjB jbJ cyI u.2.2.2.2.2.1 jdj cyI u.2.2.2.2.2.2.2.2.2.2.2.1 jaT cyI u.2.2.2.2.2.2.2.2.2.2.2.2 jdO cyI jil) : va_W))) (va_A (qhe a0 jaX jaF jaD ja7 jby jbf jaM jaY jap jaK jeR je2 jfM jdO ja5 jb9 jbJ jg3 jge jg8 jaN jaC jbw jaw jaI jaZ jaH jaS jan jbD jaE jar jaL jah jhS jcn jaz jaG jab jaT z0_s jaq jai jdj jh9 jat jau jav jaj jas jaJ jak jad jay ji3 jeR cyI ji8 ja5 cyI jbv je2 cyI ji9 jb9 cyI jdH jfM cyI jjB jbJ cyI jcx jdj cyI jgu jaT cyI jb0 jdO cyI jil) sz)) 0 0 (va_A (qhe a0 jaX jaF jaD ja7 jby jbf jaM jaY jap jaK jeR je2 jfM jdO ja5 jb9 jbJ jg3 jge jg8 jaN jaC jbw jaw jaI jaZ jaH jaS jan jbD jaE jar jaL jah jhS jcn jaz jaG jab jaT z0_s jaq jai jdj jh9 jat jau jav jaj jas jaJ jak jad jay ji3 jeR cyI ji8 ja5 cyI jbv je2 cyI ji9 jb9 cyI jdH jfM cyI jjB jbJ cyI jcx jdj cyI jgu jaT cyI jb0 jdO cyI jil) sz) := by
  refine Met.ofW (cc := cX11_sets) (maxL := 2) (ret := none) (by decide) rfl ?_
  intro p e s m args below meth c s₁ B hml hv
  obtain ⟨rfl, hsz, hP, hK, hD0, hNw⟩ := hv
  have hx := B.exec
  have hb := B.bytes
  have hr := B.returns
  have hts := atoms_spec (ws := wsX11_sets) B.pre
  have hown : s.vm.findClass RX11 = some m.cls := findClass_of_methodNamed B.named
  have hlocks := B.notSynchronized
  subst hsz
  have hD := hD0.self (sz := s.heap.size)
  generalize hAe : va_A (qhe a0 jaX jaF jaD ja7 jby jbf jaM jaY jap jaK jeR je2 jfM jdO ja5 jb9 jbJ jg3 jge jg8 jaN jaC jbw jaw jaI jaZ jaH jaS jan jbD jaE jar jaL jah jhS jcn jaz jaG jab jaT z0_s jaq jai jdj jh9 jat jau jav jaj jas jaJ jak jad jay ji3 jeR cyI ji8 ja5 cyI jbv je2 cyI ji9 jb9 cyI jdH jfM cyI jjB jbJ cyI jcx jdj cyI jgu jaT cyI jb0 jdO cyI jil) s.heap.size = A at hD ⊢
  have hA : ∀ q : Nat, s.heap.size ≤ q → A q := fun q h => by rw [← hAe]; exact Or.inr h
  have hS : va_S A s.heap s.heap [] := va_S.rf
  have hP : va_P (dC, dI) vwCl (qhe a0 jaX jaF jaD ja7 jby jbf jaM jaY jap jaK jeR je2 jfM jdO ja5 jb9 jbJ jg3 jge jg8 jaN jaC jbw jaw jaI jaZ jaH jaS jan jbD jaE jar jaL jah jhS jcn jaz jaG jab jaT z0_s jaq jai jdj jh9 jat jau jav jaj jas jaJ jak jad jay ji3 jeR cyI ji8 ja5 cyI jbv je2 cyI ji9 jb9 cyI jdH jfM cyI jjB jbJ cyI jcx jdj cyI jgu jaT cyI jb0 jdO cyI jil) s.heap := hP
  have hl := lv_entry ([.ref a0]) (n := 2) (nbq rfl)
  rw [lg_entry_eq]
  generalize (lg_sl ([.ref a0]) ++ List.replicate (2 - (lg_sl ([.ref a0])).length) Slot.unset).toArray = ls at hl ⊢
  have hl : lv_has ls 2 [(0, .ref a0)] := hl
  have C0 : cfx p s m _ meth c cX11_sets none wsX11_sets RX11 2 A (dC, dI) (kT cyB cyI cyJ cyP) := ⟨hx, hb, hr, hts, hown, hlocks, hml, hA, hK, hNw⟩
  clear hAe
  obtain ⟨H, hH⟩ : ∃ H, H = s.heap := ⟨_, rfl⟩
  rw [← hH] at hP ⊢
  have hS : va_S A s.heap H [] := by rw [hH]; exact va_S.rf
  have hS := hS
  refine lv_aload_n hx hb (qaa qmu 0 rfl) rfl (lv_at hl 0 rfl) ?_
  refine lv_aload_n hx hb (qaa qmu 1 rfl) rfl (lv_at hl 0 rfl) ?_
  refine va_get (D := (dC, dI)) (ci := 11) (v := .int jg3) (C := RX11) (T := TX11) (N := 55) hx hb hts qbV hown hK hP 0 rfl rfl 17 (by decide) (hts _ qatj) (fun _ h9 => h9) rfl (qaa qmu 2 rfl) ?_
  refine va_put (D := (dC, dI)) (ci := 11) (v := .int jg3) (ty := .int) (C := RX11) (T := TX11) (N := 55) hx hb hts qbV tyX11 tyX11_ok nmX11 hown hK hP hD hS 0 rfl rfl 20 (by decide) (hts _ qaoZ) (fun _ h9 => h9) rfl (by decide +kernel) rfl rfl (nbq rfl) (qaa qmu 3 rfl) (fun H locs hP hD hS => ?_)
  have hP : va_P (dC, dI) vwCl (qhe a0 jaX jaF jaD ja7 jby jbf jaM jaY jap jaK jeR je2 jfM jdO ja5 jb9 jbJ jg3 jge jg8 jg3 jaC jbw jaw jaI jaZ jaH jaS jan jbD jaE jar jaL jah jhS jcn jaz jaG jab jaT z0_s jaq jai jdj jh9 jat jau jav jaj jas jaJ jak jad jay ji3 jeR cyI ji8 ja5 cyI jbv je2 cyI ji9 jb9 cyI jdH jfM cyI jjB jbJ cyI jcx jdj cyI jgu jaT cyI jb0 jdO cyI jil) H := hP
  have hD : va_D A (qhe a0 jaX jaF jaD ja7 jby jbf jaM jaY jap jaK jeR je2 jfM jdO ja5 jb9 jbJ jg3 jge jg8 jg3 jaC jbw jaw jaI jaZ jaH jaS jan jbD jaE jar jaL jah jhS jcn jaz jaG jab jaT z0_s jaq jai jdj jh9 jat jau jav jaj jas jaJ jak jad jay ji3 jeR cyI ji8 ja5 cyI jbv je2 cyI ji9 jb9 cyI jdH jfM cyI jjB jbJ cyI jcx jdj cyI jgu jaT cyI jb0 jdO cyI jil) := hD
  refine lv_aload_n hx hb (qaa qmu 4 rfl) rfl (lv_at hl 0 rfl) ?_
  refine lv_aload_n hx hb (qaa qmu 5 rfl) rfl (lv_at hl 0 rfl) ?_
  refine va_get (D := (dC, dI)) (ci := 11) (v := .int jge) (C := RX11) (T := TX11) (N := 55) hx hb hts qbV hown hK hP 0 rfl rfl 18 (by decide) (hts _ qaqN) (fun _ h9 => h9) rfl (qaa qmu 6 rfl) ?_
  refine va_put (D := (dC, dI)) (ci := 11) (v := .int jge) (ty := .int) (C := RX11) (T := TX11) (N := 55) hx hb hts qbV tyX11 tyX11_ok nmX11 hown hK hP hD hS 0 rfl rfl 21 (by decide) (hts _ qZp) (fun _ h9 => h9) rfl (by decide +kernel) rfl rfl (nbq rfl) (qaa qmu 7 rfl) (fun H locs hP hD hS => ?_)
  have hP : va_P (dC, dI) vwCl (qhe a0 jaX jaF jaD ja7 jby jbf jaM jaY jap jaK jeR je2 jfM jdO ja5 jb9 jbJ jg3 jge jg8 jg3 jge jbw jaw jaI jaZ jaH jaS jan jbD jaE jar jaL jah jhS jcn jaz jaG jab jaT z0_s jaq jai jdj jh9 jat jau jav jaj jas jaJ jak jad jay ji3 jeR cyI ji8 ja5 cyI jbv je2 cyI ji9 jb9 cyI jdH jfM cyI jjB jbJ cyI jcx jdj cyI jgu jaT cyI jb0 jdO cyI jil) H := hP
  have hD : va_D A (qhe a0 jaX jaF jaD ja7 jby jbf jaM jaY jap jaK jeR je2 jfM jdO ja5 jb9 jbJ jg3 jge jg8 jg3 jge jbw jaw jaI jaZ jaH jaS jan jbD jaE jar jaL jah jhS jcn jaz jaG jab jaT z0_s jaq jai jdj jh9 jat jau jav jaj jas jaJ jak jad jay ji3 jeR cyI ji8 ja5 cyI jbv je2 cyI ji9 jb9 cyI jdH jfM cyI jjB jbJ cyI jcx jdj cyI jgu jaT cyI jb0 jdO cyI jil) := hD
  refine lv_aload_n hx hb (qaa qmu 8 rfl) rfl (lv_at hl 0 rfl) ?_
  refine lv_aload_n hx hb (qaa qmu 9 rfl) rfl (lv_at hl 0 rfl) ?_
  refine va_get (D := (dC, dI)) (ci := 11) (v := .int jg8) (C := RX11) (T := TX11) (N := 55) hx hb hts qbV hown hK hP 0 rfl rfl 19 (by decide) (hts _ qasW) (fun _ h9 => h9) rfl (qaa qmu 10 rfl) ?_
  refine va_put (D := (dC, dI)) (ci := 11) (v := .int jg8) (ty := .int) (C := RX11) (T := TX11) (N := 55) hx hb hts qbV tyX11 tyX11_ok nmX11 hown hK hP hD hS 0 rfl rfl 22 (by decide) (hts _ qaoH) (fun _ h9 => h9) rfl (by decide +kernel) rfl rfl (nbq rfl) (qaa qmu 11 rfl) (fun H locs hP hD hS => ?_)
  have hP : va_P (dC, dI) vwCl (qhe a0 jaX jaF jaD ja7 jby jbf jaM jaY jap jaK jeR je2 jfM jdO ja5 jb9 jbJ jg3 jge jg8 jg3 jge jg8 jaw jaI jaZ jaH jaS jan jbD jaE jar jaL jah jhS jcn jaz jaG jab jaT z0_s jaq jai jdj jh9 jat jau jav jaj jas jaJ jak jad jay ji3 jeR cyI ji8 ja5 cyI jbv je2 cyI ji9 jb9 cyI jdH jfM cyI jjB jbJ cyI jcx jdj cyI jgu jaT cyI jb0 jdO cyI jil) H := hP
  have hD : va_D A (qhe a0 jaX jaF jaD ja7 jby jbf jaM jaY jap jaK jeR je2 jfM jdO ja5 jb9 jbJ jg3 jge jg8 jg3 jge jg8 jaw jaI jaZ jaH jaS jan jbD jaE jar jaL jah jhS jcn jaz jaG jab jaT z0_s jaq jai jdj jh9 jat jau jav jaj jas jaJ jak jad jay ji3 jeR cyI ji8 ja5 cyI jbv je2 cyI ji9 jb9 cyI jdH jfM cyI jjB jbJ cyI jcx jdj cyI jgu jaT cyI jb0 jdO cyI jil) := hD
  refine lv_aload_n hx hb (qaa qmu 12 rfl) rfl (lv_at hl 0 rfl) ?_
  refine lv_aload_n hx hb (qaa qmu 13 rfl) rfl (lv_at hl 0 rfl) ?_
  refine va_get (D := (dC, dI)) (ci := 11) (v := .ref jeR) (C := RX11) (T := TX11) (N := 55) hx hb hts qbV hown hK hP 0 rfl rfl 10 (by decide) (hts _ qaBv) (fun _ h9 => h9) rfl (qaa qmu 14 rfl) ?_
  refine lv_aload_n hx hb (qaa qmu 15 rfl) rfl (lv_at hl 0 rfl) ?_
  refine va_get (D := (dC, dI)) (ci := 11) (v := .ref ja5) (C := RX11) (T := TX11) (N := 55) hx hb hts qbV hown hK hP 0 rfl rfl 14 (by decide) (hts _ qazy) (fun _ h9 => h9) rfl (qaa qjk 0 rfl) ?_
  refine lv_bipush (v := 16) hx hb (qaa qjk 1 rfl) (by decide) ?_
  obtain ⟨hCc, hPc, hDc, hFc⟩ := qac (ws' := (qa9I a0 jaX jaF jaD ja7 jby jbf jaM jaY jap jaK jeR je2 jfM jdO ja5 jb9 jbJ jg3 jge jg8 jg3 jge jg8 jaw jaI jaZ jaH jaS jan jbD jaE jar jaL jah jhS jcn jaz jaG jab jaT z0_s jaq jai jdj jh9 jat jau jav jaj jas jaJ jak jad jay ji3 jeR cyI ji8 ja5 cyI jbv)) hP hD hS hA [0, 1, 2] (by decide +kernel) rfl
  refine va_callv (va_runV (As := [.ref jeR, .ref ja5, .int 16]) (rest := []) ⟨hx, hb, hml, hown, hts⟩ (qu1 l dC dI cyB cyI cyJ cyP a0 jeR ja5 H.size (jaX) (jaF) (jaD) (ja7) (jby) (jbf) (jaM) (jaY) (jap) (jaK) (.ref jeR) (.ref je2) (.ref jfM) (.ref jdO) (.ref ja5) (.ref jb9) (.ref jbJ) (.int jg3) (.int jge) (.int jg8) (.int jg3) (.int jge) (.int jg8) (jaw) (jaI) (jaZ) (jaH) (jaS) (jan) (.int jbD) (jaE) (jar) (jaL) (jah) (.int jhS) (.int jcn) (jaz) (jaG) (jab) (.ref jaT) (z0_s) (jaq) (jai) (.ref jdj) (.int jh9) (jat) (jau) (jav) (jaj) (jas) (jaJ) (jak) (jad) (jay) (.int ji3) 16 16 ji8 jbv 16 hw) (cwV 3 hts gX11_sets_X11_copies rfl rfl rfl (by decide +kernel) ⟨nbq rfl, nbq rfl⟩) ⟨qab, va_recv (q := (RX11, TX11, 55)) hK hPc (ci := 11) (q0 := 0) rfl rfl, qae hPc hK hDc hNw⟩ rfl rfl hl.1 rfl (lv_room (nbq rfl)) (qaa qjk 2 rfl) ⟨nbq rfl, nbq rfl⟩) hS (fun q _ h => hFc q h) hFc (fun u t H1 locs ht hvm hw hB hz1 hk1 hS => ?_)
  obtain ⟨f1, rfl⟩ : ∃ z, z = u := ⟨_, rfl⟩
  obtain ⟨hP1, hK1, hD1⟩ := hB
  rw [ht] at hP1
  obtain ⟨hP, hD⟩ := qad (wr := [(je2, .inl (cyI, 12, .inl ji9)), (jb9, .inl (cyI, 12, .inl jdH)), (jfM, .inl (cyI, 8, .inl jjB)), (jbJ, .inl (cyI, 8, .inl jcx)), (jdj, .inl (cyI, 8, .inl jgu)), (jaT, .inl (cyI, 68, .inl jb0)), (jdO, .inl (cyI, 36, .inl jil))]) (w1 := (qa9I a0 jaX jaF jaD ja7 jby jbf jaM jaY jap jaK jeR je2 jfM jdO ja5 jb9 jbJ jg3 jge jg8 jg3 jge jg8 jaw jaI jaZ jaH jaS jan jbD jaE jar jaL jah jhS jcn jaz jaG jab jaT z0_s jaq jai jdj jh9 jat jau jav jaj jas jaJ jak jad jay ji3 jeR cyI ji8 ja5 cyI f1)) (wn := (qhe a0 jaX jaF jaD ja7 jby jbf jaM jaY jap jaK jeR je2 jfM jdO ja5 jb9 jbJ jg3 jge jg8 jg3 jge jg8 jaw jaI jaZ jaH jaS jan jbD jaE jar jaL jah jhS jcn jaz jaG jab jaT z0_s jaq jai jdj jh9 jat jau jav jaj jas jaJ jak jad jay ji3 jeR cyI ji8 ja5 cyI f1 je2 cyI ji9 jb9 cyI jdH jfM cyI jjB jbJ cyI jcx jdj cyI jgu jaT cyI jb0 jdO cyI jil)) hP hD [0, 1, 2] [3, 4, 5, 6, 7, 8, 9] [7, 8, 9, 0, 1, 2, 3, 4, 5, 6] hCc rfl (by decide +kernel) (by decide +kernel) (by decide +kernel) rfl hk1 hFc hP1 hD1
  generalize H1 = H at hP hS ⊢
  refine lv_aload_n hx hb (qaa qjk 3 rfl) rfl (lv_at hl 0 rfl) ?_
  refine lv_aload_n hx hb (qaa qjk 4 rfl) rfl (lv_at hl 0 rfl) ?_
  refine va_get (D := (dC, dI)) (ci := 11) (v := .ref je2) (C := RX11) (T := TX11) (N := 55) hx hb hts qbV hown hK hP 0 rfl rfl 11 (by decide) (hts _ qavv) (fun _ h9 => h9) rfl (qaa qjk 5 rfl) ?_
  refine lv_aload_n hx hb (qaa qjk 6 rfl) rfl (lv_at hl 0 rfl) ?_
  refine va_get (D := (dC, dI)) (ci := 11) (v := .ref jb9) (C := RX11) (T := TX11) (N := 55) hx hb hts qbV hown hK hP 0 rfl rfl 15 (by decide) (hts _ qPD) (fun _ h9 => h9) rfl (qaa qjk 7 rfl) ?_
  refine lv_bipush (v := 12) hx hb (qaa qjk 8 rfl) (by decide) ?_
  obtain ⟨hCc, hPc, hDc, hFc⟩ := qac (ws' := (qa58 a0 jaX jaF jaD ja7 jby jbf jaM jaY jap jaK jeR je2 jfM jdO ja5 jb9 jbJ jg3 jge jg8 jg3 jge jg8 jaw jaI jaZ jaH jaS jan jbD jaE jar jaL jah jhS jcn jaz jaG jab jaT z0_s jaq jai jdj jh9 jat jau jav jaj jas jaJ jak jad jay ji3 je2 cyI ji9 jb9 cyI jdH)) hP hD hS hA [0, 3, 4] (by decide +kernel) rfl
  refine va_callv (va_runV (As := [.ref je2, .ref jb9, .int 12]) (rest := []) ⟨hx, hb, hml, hown, hts⟩ (qu1 l dC dI cyB cyI cyJ cyP a0 je2 jb9 H.size (jaX) (jaF) (jaD) (ja7) (jby) (jbf) (jaM) (jaY) (jap) (jaK) (.ref jeR) (.ref je2) (.ref jfM) (.ref jdO) (.ref ja5) (.ref jb9) (.ref jbJ) (.int jg3) (.int jge) (.int jg8) (.int jg3) (.int jge) (.int jg8) (jaw) (jaI) (jaZ) (jaH) (jaS) (jan) (.int jbD) (jaE) (jar) (jaL) (jah) (.int jhS) (.int jcn) (jaz) (jaG) (jab) (.ref jaT) (z0_s) (jaq) (jai) (.ref jdj) (.int jh9) (jat) (jau) (jav) (jaj) (jas) (jaJ) (jak) (jad) (jay) (.int ji3) 12 12 ji9 jdH 12 hw) (cwV 3 hts gX11_sets_X11_copies rfl rfl rfl (by decide +kernel) ⟨nbq rfl, nbq rfl⟩) ⟨qab, va_recv (q := (RX11, TX11, 55)) hK hPc (ci := 11) (q0 := 0) rfl rfl, qae hPc hK hDc hNw⟩ rfl rfl hl.1 rfl (lv_room (nbq rfl)) (qaa qjk 9 rfl) ⟨nbq rfl, nbq rfl⟩) hS (fun q _ h => hFc q h) hFc (fun u t H1 locs ht hvm hw hB hz1 hk1 hS => ?_)
  obtain ⟨f2, rfl⟩ : ∃ z, z = u := ⟨_, rfl⟩
  obtain ⟨hP1, hK1, hD1⟩ := hB
  rw [ht] at hP1
  obtain ⟨hP, hD⟩ := qad (wr := [(jeR, .inl (cyI, 16, .inl ji8)), (ja5, .inl (cyI, 16, .inl f1)), (jfM, .inl (cyI, 8, .inl jjB)), (jbJ, .inl (cyI, 8, .inl jcx)), (jdj, .inl (cyI, 8, .inl jgu)), (jaT, .inl (cyI, 68, .inl jb0)), (jdO, .inl (cyI, 36, .inl jil))]) (w1 := (qa58 a0 jaX jaF jaD ja7 jby jbf jaM jaY jap jaK jeR je2 jfM jdO ja5 jb9 jbJ jg3 jge jg8 jg3 jge jg8 jaw jaI jaZ jaH jaS jan jbD jaE jar jaL jah jhS jcn jaz jaG jab jaT z0_s jaq jai jdj jh9 jat jau jav jaj jas jaJ jak jad jay ji3 je2 cyI ji9 jb9 cyI f2)) (wn := (qhe a0 jaX jaF jaD ja7 jby jbf jaM jaY jap jaK jeR je2 jfM jdO ja5 jb9 jbJ jg3 jge jg8 jg3 jge jg8 jaw jaI jaZ jaH jaS jan jbD jaE jar jaL jah jhS jcn jaz jaG jab jaT z0_s jaq jai jdj jh9 jat jau jav jaj jas jaJ jak jad jay ji3 jeR cyI ji8 ja5 cyI f1 je2 cyI ji9 jb9 cyI f2 jfM cyI jjB jbJ cyI jcx jdj cyI jgu jaT cyI jb0 jdO cyI jil)) hP hD [0, 3, 4] [1, 2, 5, 6, 7, 8, 9] [7, 0, 1, 8, 9, 2, 3, 4, 5, 6] hCc rfl (by decide +kernel) (by decide +kernel) (by decide +kernel) rfl hk1 hFc hP1 hD1
  generalize H1 = H at hP hS ⊢
  refine lv_aload_n hx hb (qaa qjk 10 rfl) rfl (lv_at hl 0 rfl) ?_
  refine lv_aload_n hx hb (qaa qjk 11 rfl) rfl (lv_at hl 0 rfl) ?_
  refine va_get (D := (dC, dI)) (ci := 11) (v := .ref jfM) (C := RX11) (T := TX11) (N := 55) hx hb hts qbV hown hK hP 0 rfl rfl 12 (by decide) (hts _ qayM) (fun _ h9 => h9) rfl (qaa qjk 12 rfl) ?_
  refine lv_aload_n hx hb (qaa qjk 13 rfl) rfl (lv_at hl 0 rfl) ?_
  refine va_get (D := (dC, dI)) (ci := 11) (v := .ref jbJ) (C := RX11) (T := TX11) (N := 55) hx hb hts qbV hown hK hP 0 rfl rfl 16 (by decide) (hts _ qayh) (fun _ h9 => h9) rfl (qaa qjk 14 rfl) ?_
  refine lv_bipush (v := 8) hx hb (qaa qjk 15 rfl) (by decide) ?_
  obtain ⟨hCc, hPc, hDc, hFc⟩ := qac (ws' := (qa6G a0 jaX jaF jaD ja7 jby jbf jaM jaY jap jaK jeR je2 jfM jdO ja5 jb9 jbJ jg3 jge jg8 jg3 jge jg8 jaw jaI jaZ jaH jaS jan jbD jaE jar jaL jah jhS jcn jaz jaG jab jaT z0_s jaq jai jdj jh9 jat jau jav jaj jas jaJ jak jad jay ji3 jfM cyI jjB jbJ cyI jcx)) hP hD hS hA [0, 5, 6] (by decide +kernel) rfl
  refine va_callv (va_runV (As := [.ref jfM, .ref jbJ, .int 8]) (rest := []) ⟨hx, hb, hml, hown, hts⟩ (qu1 l dC dI cyB cyI cyJ cyP a0 jfM jbJ H.size (jaX) (jaF) (jaD) (ja7) (jby) (jbf) (jaM) (jaY) (jap) (jaK) (.ref jeR) (.ref je2) (.ref jfM) (.ref jdO) (.ref ja5) (.ref jb9) (.ref jbJ) (.int jg3) (.int jge) (.int jg8) (.int jg3) (.int jge) (.int jg8) (jaw) (jaI) (jaZ) (jaH) (jaS) (jan) (.int jbD) (jaE) (jar) (jaL) (jah) (.int jhS) (.int jcn) (jaz) (jaG) (jab) (.ref jaT) (z0_s) (jaq) (jai) (.ref jdj) (.int jh9) (jat) (jau) (jav) (jaj) (jas) (jaJ) (jak) (jad) (jay) (.int ji3) 8 8 jjB jcx 8 hw) (cwV 3 hts gX11_sets_X11_copies rfl rfl rfl (by decide +kernel) ⟨nbq rfl, nbq rfl⟩) ⟨qab, va_recv (q := (RX11, TX11, 55)) hK hPc (ci := 11) (q0 := 0) rfl rfl, qae hPc hK hDc hNw⟩ rfl rfl hl.1 rfl (lv_room (nbq rfl)) (qaa qjY 0 rfl) ⟨nbq rfl, nbq rfl⟩) hS (fun q _ h => hFc q h) hFc (fun u t H1 locs ht hvm hw hB hz1 hk1 hS => ?_)
  obtain ⟨f3, rfl⟩ : ∃ z, z = u := ⟨_, rfl⟩
  obtain ⟨hP1, hK1, hD1⟩ := hB
  rw [ht] at hP1
  obtain ⟨hP, hD⟩ := qad (wr := [(jeR, .inl (cyI, 16, .inl ji8)), (ja5, .inl (cyI, 16, .inl f1)), (je2, .inl (cyI, 12, .inl ji9)), (jb9, .inl (cyI, 12, .inl f2)), (jdj, .inl (cyI, 8, .inl jgu)), (jaT, .inl (cyI, 68, .inl jb0)), (jdO, .inl (cyI, 36, .inl jil))]) (w1 := (qa6G a0 jaX jaF jaD ja7 jby jbf jaM jaY jap jaK jeR je2 jfM jdO ja5 jb9 jbJ jg3 jge jg8 jg3 jge jg8 jaw jaI jaZ jaH jaS jan jbD jaE jar jaL jah jhS jcn jaz jaG jab jaT z0_s jaq jai jdj jh9 jat jau jav jaj jas jaJ jak jad jay ji3 jfM cyI jjB jbJ cyI f3)) (wn := (qhe a0 jaX jaF jaD ja7 jby jbf jaM jaY jap jaK jeR je2 jfM jdO ja5 jb9 jbJ jg3 jge jg8 jg3 jge jg8 jaw jaI jaZ jaH jaS jan jbD jaE jar jaL jah jhS jcn jaz jaG jab jaT z0_s jaq jai jdj jh9 jat jau jav jaj jas jaJ jak jad jay ji3 jeR cyI ji8 ja5 cyI f1 je2 cyI ji9 jb9 cyI f2 jfM cyI jjB jbJ cyI f3 jdj cyI jgu jaT cyI jb0 jdO cyI jil)) hP hD [0, 5, 6] [1, 2, 3, 4, 7, 8, 9] [7, 0, 1, 2, 3, 8, 9, 4, 5, 6] hCc rfl (by decide +kernel) (by decide +kernel) (by decide +kernel) rfl hk1 hFc hP1 hD1
  generalize H1 = H at hP hS ⊢
  refine lv_aload_n hx hb (qaa qjY 1 rfl) rfl (lv_at hl 0 rfl) ?_
  refine lv_iconst (v := 0) hx hb (qaa qjY 2 rfl) (by decide) ?_
  refine va_put (D := (dC, dI)) (ci := 11) (v := .int 0) (ty := .int) (C := RX11) (T := TX11) (N := 55) hx hb hts qbV tyX11 tyX11_ok nmX11 hown hK hP hD hS 0 rfl rfl 29 (by decide) (hts _ qarG) (fun _ h9 => h9) rfl (by decide +kernel) rfl rfl (nbq rfl) (qaa qjY 3 rfl) (fun H locs hP hD hS => ?_)
  have hP : va_P (dC, dI) vwCl (qhe a0 jaX jaF jaD ja7 jby jbf jaM jaY jap jaK jeR je2 jfM jdO ja5 jb9 jbJ jg3 jge jg8 jg3 jge jg8 jaw jaI jaZ jaH jaS jan 0 jaE jar jaL jah jhS jcn jaz jaG jab jaT z0_s jaq jai jdj jh9 jat jau jav jaj jas jaJ jak jad jay ji3 jeR cyI ji8 ja5 cyI f1 je2 cyI ji9 jb9 cyI f2 jfM cyI jjB jbJ cyI f3 jdj cyI jgu jaT cyI jb0 jdO cyI jil) H := hP
  have hD : va_D A (qhe a0 jaX jaF jaD ja7 jby jbf jaM jaY jap jaK jeR je2 jfM jdO ja5 jb9 jbJ jg3 jge jg8 jg3 jge jg8 jaw jaI jaZ jaH jaS jan 0 jaE jar jaL jah jhS jcn jaz jaG jab jaT z0_s jaq jai jdj jh9 jat jau jav jaj jas jaJ jak jad jay ji3 jeR cyI ji8 ja5 cyI f1 je2 cyI ji9 jb9 cyI f2 jfM cyI jjB jbJ cyI f3 jdj cyI jgu jaT cyI jb0 jdO cyI jil) := hD
  refine lv_aload_n hx hb (qaa qjY 4 rfl) rfl (lv_at hl 0 rfl) ?_
  refine lv_iconst (v := 0) hx hb (qaa qjY 5 rfl) (by decide) ?_
  refine va_put (D := (dC, dI)) (ci := 11) (v := .int 0) (ty := .int) (C := RX11) (T := TX11) (N := 55) hx hb hts qbV tyX11 tyX11_ok nmX11 hown hK hP hD hS 0 rfl rfl 44 (by decide) (hts _ qapz) (fun _ h9 => h9) rfl (by decide +kernel) rfl rfl (nbq rfl) (qaa qjY 6 rfl) (fun H locs hP hD hS => ?_)
  have hP : va_P (dC, dI) vwCl (qhe a0 jaX jaF jaD ja7 jby jbf jaM jaY jap jaK jeR je2 jfM jdO ja5 jb9 jbJ jg3 jge jg8 jg3 jge jg8 jaw jaI jaZ jaH jaS jan 0 jaE jar jaL jah jhS jcn jaz jaG jab jaT z0_s jaq jai jdj 0 jat jau jav jaj jas jaJ jak jad jay ji3 jeR cyI ji8 ja5 cyI f1 je2 cyI ji9 jb9 cyI f2 jfM cyI jjB jbJ cyI f3 jdj cyI jgu jaT cyI jb0 jdO cyI jil) H := hP
  have hD : va_D A (qhe a0 jaX jaF jaD ja7 jby jbf jaM jaY jap jaK jeR je2 jfM jdO ja5 jb9 jbJ jg3 jge jg8 jg3 jge jg8 jaw jaI jaZ jaH jaS jan 0 jaE jar jaL jah jhS jcn jaz jaG jab jaT z0_s jaq jai jdj 0 jat jau jav jaj jas jaJ jak jad jay ji3 jeR cyI ji8 ja5 cyI f1 je2 cyI ji9 jb9 cyI f2 jfM cyI jjB jbJ cyI f3 jdj cyI jgu jaT cyI jb0 jdO cyI jil) := hD
  refine lv_aload_n hx hb (qaa qjY 7 rfl) rfl (lv_at hl 0 rfl) ?_
  refine lv_iconst (v := 0) hx hb (qaa qjY 8 rfl) (by decide) ?_
  refine va_put (D := (dC, dI)) (ci := 11) (v := .int 0) (ty := .int) (C := RX11) (T := TX11) (N := 55) hx hb hts qbV tyX11 tyX11_ok nmX11 hown hK hP hD hS 0 rfl rfl 34 (by decide) (hts _ qapB) (fun _ h9 => h9) rfl (by decide +kernel) rfl rfl (nbq rfl) (qaa qjY 9 rfl) (fun H locs hP hD hS => ?_)
  have hP : va_P (dC, dI) vwCl (qhe a0 jaX jaF jaD ja7 jby jbf jaM jaY jap jaK jeR je2 jfM jdO ja5 jb9 jbJ jg3 jge jg8 jg3 jge jg8 jaw jaI jaZ jaH jaS jan 0 jaE jar jaL jah 0 jcn jaz jaG jab jaT z0_s jaq jai jdj 0 jat jau jav jaj jas jaJ jak jad jay ji3 jeR cyI ji8 ja5 cyI f1 je2 cyI ji9 jb9 cyI f2 jfM cyI jjB jbJ cyI f3 jdj cyI jgu jaT cyI jb0 jdO cyI jil) H := hP
  have hD : va_D A (qhe a0 jaX jaF jaD ja7 jby jbf jaM jaY jap jaK jeR je2 jfM jdO ja5 jb9 jbJ jg3 jge jg8 jg3 jge jg8 jaw jaI jaZ jaH jaS jan 0 jaE jar jaL jah 0 jcn jaz jaG jab jaT z0_s jaq jai jdj 0 jat jau jav jaj jas jaJ jak jad jay ji3 jeR cyI ji8 ja5 cyI f1 je2 cyI ji9 jb9 cyI f2 jfM cyI jjB jbJ cyI f3 jdj cyI jgu jaT cyI jb0 jdO cyI jil) := hD
  refine lv_aload_n hx hb (qaa qjY 10 rfl) rfl (lv_at hl 0 rfl) ?_
  refine lv_iconst (v := 0) hx hb (qaa qjY 11 rfl) (by decide) ?_
  refine va_put (D := (dC, dI)) (ci := 11) (v := .int 0) (ty := .int) (C := RX11) (T := TX11) (N := 55) hx hb hts qbV tyX11 tyX11_ok nmX11 hown hK hP hD hS 0 rfl rfl 54 (by decide) (hts _ qaqt) (fun _ h9 => h9) rfl (by decide +kernel) rfl rfl (nbq rfl) (qaa qjY 12 rfl) (fun H locs hP hD hS => ?_)
  have hP : va_P (dC, dI) vwCl (qhe a0 jaX jaF jaD ja7 jby jbf jaM jaY jap jaK jeR je2 jfM jdO ja5 jb9 jbJ jg3 jge jg8 jg3 jge jg8 jaw jaI jaZ jaH jaS jan 0 jaE jar jaL jah 0 jcn jaz jaG jab jaT z0_s jaq jai jdj 0 jat jau jav jaj jas jaJ jak jad jay 0 jeR cyI ji8 ja5 cyI f1 je2 cyI ji9 jb9 cyI f2 jfM cyI jjB jbJ cyI f3 jdj cyI jgu jaT cyI jb0 jdO cyI jil) H := hP
  have hD : va_D A (qhe a0 jaX jaF jaD ja7 jby jbf jaM jaY jap jaK jeR je2 jfM jdO ja5 jb9 jbJ jg3 jge jg8 jg3 jge jg8 jaw jaI jaZ jaH jaS jan 0 jaE jar jaL jah 0 jcn jaz jaG jab jaT z0_s jaq jai jdj 0 jat jau jav jaj jas jaJ jak jad jay 0 jeR cyI ji8 ja5 cyI f1 je2 cyI ji9 jb9 cyI f2 jfM cyI jjB jbJ cyI f3 jdj cyI jgu jaT cyI jb0 jdO cyI jil) := hD
  refine lv_aload_n hx hb (qaa qjY 13 rfl) rfl (lv_at hl 0 rfl) ?_
  refine lv_iconst (v := 0) hx hb (qaa qjY 14 rfl) (by decide) ?_
  refine va_put (D := (dC, dI)) (ci := 11) (v := .int 0) (ty := .int) (C := RX11) (T := TX11) (N := 55) hx hb hts qbV tyX11 tyX11_ok nmX11 hown hK hP hD hS 0 rfl rfl 35 (by decide) (hts _ qatL) (fun _ h9 => h9) rfl (by decide +kernel) rfl rfl (nbq rfl) (qaa qjY 15 rfl) (fun H locs hP hD hS => ?_)
  have hP : va_P (dC, dI) vwCl (qhe a0 jaX jaF jaD ja7 jby jbf jaM jaY jap jaK jeR je2 jfM jdO ja5 jb9 jbJ jg3 jge jg8 jg3 jge jg8 jaw jaI jaZ jaH jaS jan 0 jaE jar jaL jah 0 0 jaz jaG jab jaT z0_s jaq jai jdj 0 jat jau jav jaj jas jaJ jak jad jay 0 jeR cyI ji8 ja5 cyI f1 je2 cyI ji9 jb9 cyI f2 jfM cyI jjB jbJ cyI f3 jdj cyI jgu jaT cyI jb0 jdO cyI jil) H := hP
  have hD : va_D A (qhe a0 jaX jaF jaD ja7 jby jbf jaM jaY jap jaK jeR je2 jfM jdO ja5 jb9 jbJ jg3 jge jg8 jg3 jge jg8 jaw jaI jaZ jaH jaS jan 0 jaE jar jaL jah 0 0 jaz jaG jab jaT z0_s jaq jai jdj 0 jat jau jav jaj jas jaJ jak jad jay 0 jeR cyI ji8 ja5 cyI f1 je2 cyI ji9 jb9 cyI f2 jfM cyI jjB jbJ cyI f3 jdj cyI jgu jaT cyI jb0 jdO cyI jil) := hD
  refine lv_iconst (v := 0) hx hb (qaa qky 0 rfl) (by decide) ?_
  refine lv_istore_n (lv' := [(1, .int 0), (0, .ref a0)]) hx hb (qaa qky 1 rfl) rfl hl (by decide) rfl (fun ls hl => ?_)
  obtain ⟨n9, hw⟩ := hw
  exact qaJR dC dI cyB cyI cyJ cyP a0 jeR ja5 je2 jb9 jfM jbJ jdj jaT jdO jaX jaF jaD ja7 jby jbf jaM jaY jap jaK jaw jaI jaZ jaH jaS jan jaE jar jaL jah jaz jaG jab z0_s jaq jai jat jau jav jaj jas jaJ jak jad jay jg3 jge jg8 ji8 ji9 jjB jil Q C0 n9 _ _ _ jg3 jge jg8 f1 f2 f3 0 0 0 0 0 jgu jb0 0 hP hD hS (lv_sub hl [1, 0] rfl) hw
theorem qMm : ∀ w ∈ u_ws RX11 TX11 55, w ∈ wsX11_draws := uiM q8p qga (by decide +kernel)
theorem qJL : (.fieldLink RX11 444 "MarchHaresModel" "seedNow" "I" : Cond) ∈ wsX11_draws := q8p 4111 (by decide +kernel)
theorem qam8 : (.constant RX11 447 (1103515245) : Cond) ∈ wsX11_draws := q8p 4116 (by decide +kernel)
set_option maxHeartbeats 4000000 in
set_option maxRecDepth 100000 in
theorem q2C (l : Launch) (dC : Nat → ClassId) (dI : Nat → Nat → Nat) (cyB cyI cyJ cyP : ClassId) (a0 sz : Nat) (jaX jaF jaD ja7 jby jbf jaM jaY jap jaK jal jam jax jao ja6 jaV ja8 jae jag jaf ja0 ja4 jaP jaw jaI jaZ jaH jaS jan jaU jaE jar jaL jah jaB jaa jaz jaG jab ja2 z0_s jaq jai jaO jaA jat jau jav jaj jas jaJ jad jay jac : Value) (jjo p1 : Int32) {Q : Int32 → Int32 → Prop} (hw : qLp jjo p1 Q) : Met l yX11_draws wsX11_draws ({ frames := 0, cells := 0, slots := 0, locals := 0 }) (va_Pc [.ref a0, .int p1] (cPc (dC, dI) (kT cyB cyI cyJ cyP) (qXP a0 jaX jaF jaD ja7 jby jbf jaM jaY jap jaK jal jam jax jao ja6 jaV ja8 jae jag jaf ja0 ja4 jaP jaw jaI jaZ jaH jaS jan jaU jaE jar jaL jah jaB jaa jaz jaG jab ja2 z0_s jaq jai jaO jaA jat jau jav jaj jas jaJ jjo jad jay jac) sz)) (va_Qi (fun (r u : Int32) => Q r u) (cB (dC, dI) (kT cyB cyI cyJ cyP) (va_A (qXP a0 jaX jaF jaD ja7 jby jbf jaM jaY jap jaK jal jam jax jao ja6 jaV ja8 jae jag jaf ja0 ja4 jaP jaw jaI jaZ jaH jaS jan jaU jaE jar jaL jah jaB jaa jaz jaG jab ja2 z0_s jaq jai jaO jaA jat jau jav jaj jas jaJ jjo jad jay jac) sz) (fun u : Int32 => ((qXP a0 jaX jaF jaD ja7 jby jbf jaM jaY jap jaK jal jam jax jao ja6 jaV ja8 jae jag jaf ja0 ja4 jaP jaw jaI jaZ jaH jaS jan jaU jaE jar jaL jah jaB jaa jaz jaG jab ja2 z0_s jaq jai jaO jaA jat jau jav jaj jas jaJ u jad jay jac) : va_W))) (va_A (qXP a0 jaX jaF jaD ja7 jby jbf jaM jaY jap jaK jal jam jax jao ja6 jaV ja8 jae jag jaf ja0 ja4 jaP jaw jaI jaZ jaH jaS jan jaU jaE jar jaL jah jaB jaa jaz jaG jab ja2 z0_s jaq jai jaO jaA jat jau jav jaj jas jaJ jjo jad jay jac) sz)) 0 0 (va_A (qXP a0 jaX jaF jaD ja7 jby jbf jaM jaY jap jaK jal jam jax jao ja6 jaV ja8 jae jag jaf ja0 ja4 jaP jaw jaI jaZ jaH jaS jan jaU jaE jar jaL jah jaB jaa jaz jaG jab ja2 z0_s jaq jai jaO jaA jat jau jav jaj jas jaJ jjo jad jay jac) sz) := by
  refine Met.ofW (cc := cX11_draws) (maxL := 2) (ret := (some .int)) (by decide) rfl ?_
  intro p e s m args below meth c s₁ B hml hv
  obtain ⟨rfl, hsz, hP, hK, hD0, hNw⟩ := hv
  have hx := B.exec
  have hb := B.bytes
  have hr := B.returns
  have hts := atoms_spec (ws := wsX11_draws) B.pre
  have hown : s.vm.findClass RX11 = some m.cls := findClass_of_methodNamed B.named
  have hlocks := B.notSynchronized
  subst hsz
  have hD := hD0.self (sz := s.heap.size)
  generalize hAe : va_A (qXP a0 jaX jaF jaD ja7 jby jbf jaM jaY jap jaK jal jam jax jao ja6 jaV ja8 jae jag jaf ja0 ja4 jaP jaw jaI jaZ jaH jaS jan jaU jaE jar jaL jah jaB jaa jaz jaG jab ja2 z0_s jaq jai jaO jaA jat jau jav jaj jas jaJ jjo jad jay jac) s.heap.size = A at hD ⊢
  have hA : ∀ q : Nat, s.heap.size ≤ q → A q := fun q h => by rw [← hAe]; exact Or.inr h
  have hS : va_S A s.heap s.heap [] := va_S.rf
  have hP : va_P (dC, dI) vwCl (qXP a0 jaX jaF jaD ja7 jby jbf jaM jaY jap jaK jal jam jax jao ja6 jaV ja8 jae jag jaf ja0 ja4 jaP jaw jaI jaZ jaH jaS jan jaU jaE jar jaL jah jaB jaa jaz jaG jab ja2 z0_s jaq jai jaO jaA jat jau jav jaj jas jaJ jjo jad jay jac) s.heap := hP
  have hl := lv_entry ([.ref a0, .int p1]) (n := 2) (nbq rfl)
  rw [lg_entry_eq]
  generalize (lg_sl ([.ref a0, .int p1]) ++ List.replicate (2 - (lg_sl ([.ref a0, .int p1])).length) Slot.unset).toArray = ls at hl ⊢
  have hl : lv_has ls 2 [(0, .ref a0), (1, .int p1)] := hl
  have C0 : cfx p s m _ meth c cX11_draws (some .int) wsX11_draws RX11 2 A (dC, dI) (kT cyB cyI cyJ cyP) := ⟨hx, hb, hr, hts, hown, hlocks, hml, hA, hK, hNw⟩
  clear hAe
  obtain ⟨H, hH⟩ : ∃ H, H = s.heap := ⟨_, rfl⟩
  rw [← hH] at hP ⊢
  have hS : va_S A s.heap H [] := by rw [hH]; exact va_S.rf
  have hS := hS
  refine lv_aload_n hx hb (qaa qkc 0 rfl) rfl (lv_at hl 0 rfl) ?_
  refine lv_aload_n hx hb (qaa qkc 1 rfl) rfl (lv_at hl 0 rfl) ?_
  refine va_get (D := (dC, dI)) (ci := 11) (v := .int jjo) (C := RX11) (T := TX11) (N := 55) hx hb hts qMm hown hK hP 0 rfl rfl 51 (by decide) (hts _ qJL) (fun _ h9 => h9) rfl (qaa qkc 2 rfl) ?_
  refine lv_ldcw (v := 1103515245) hx hb hown (hts _ qam8) (qaa qkc 3 rfl) ?_
  refine lv_imul hx hb (qaa qkc 4 rfl) ?_
  refine lv_topi (fun x1 ex1 => ?_)
  have hw := hw x1 ex1
  refine lv_sipush (v := 12345) hx hb (qaa qkc 5 rfl) (by decide) ?_
  refine lv_iadd hx hb (qaa qkc 6 rfl) ?_
  refine lv_topi (fun x2 ex2 => ?_)
  have hw := hw x2 ex2
  refine va_put (D := (dC, dI)) (ci := 11) (v := .int x2) (ty := .int) (C := RX11) (T := TX11) (N := 55) hx hb hts qMm tyX11 tyX11_ok nmX11 hown hK hP hD hS 0 rfl rfl 51 (by decide) (hts _ qJL) (fun _ h9 => h9) rfl (by decide +kernel) rfl rfl (nbq rfl) (qaa qkc 7 rfl) (fun H locs hP hD hS => ?_)
  have hP : va_P (dC, dI) vwCl (qXP a0 jaX jaF jaD ja7 jby jbf jaM jaY jap jaK jal jam jax jao ja6 jaV ja8 jae jag jaf ja0 ja4 jaP jaw jaI jaZ jaH jaS jan jaU jaE jar jaL jah jaB jaa jaz jaG jab ja2 z0_s jaq jai jaO jaA jat jau jav jaj jas jaJ x2 jad jay jac) H := hP
  have hD : va_D A (qXP a0 jaX jaF jaD ja7 jby jbf jaM jaY jap jaK jal jam jax jao ja6 jaV ja8 jae jag jaf ja0 ja4 jaP jaw jaI jaZ jaH jaS jan jaU jaE jar jaL jah jaB jaa jaz jaG jab ja2 z0_s jaq jai jaO jaA jat jau jav jaj jas jaJ x2 jad jay jac) := hD
  refine lv_aload_n hx hb (qaa qkc 8 rfl) rfl (lv_at hl 0 rfl) ?_
  refine va_get (D := (dC, dI)) (ci := 11) (v := .int x2) (C := RX11) (T := TX11) (N := 55) hx hb hts qMm hown hK hP 0 rfl rfl 51 (by decide) (hts _ qJL) (fun _ h9 => h9) rfl (qaa qkc 9 rfl) ?_
  refine lv_bipush (v := 16) hx hb (qaa qkc 10 rfl) (by decide) ?_
  refine lv_ishr hx hb (qaa qkc 11 rfl) ?_
  refine lv_sipush (v := 32767) hx hb (qaa qkc 12 rfl) (by decide) ?_
  refine lv_iand hx hb (qaa qkc 13 rfl) ?_
  refine lv_topi (fun x3 ex3 => ?_)
  have hw := hw x3 ex3
  refine lv_iload_n hx hb (qaa qkc 14 rfl) rfl (lv_at hl 1 rfl) ?_
  obtain ⟨hz9, hw⟩ := hw
  refine lv_irem hx hb (qaa qkc 15 rfl) hz9 ?_
  refine lv_topi (fun x4 ex4 => ?_)
  have hw := hw x4 ex4
  exact ((W.iret (v := x4) hx hb hr (fun t ht hW => ⟨⟨x4, (x2), rfl, hw, by rw [ht]; exact hP, va_K.moved hW.alike hK, hD⟩, hS.F ht⟩) hS.2.2 (qaa qaCz 0 rfl)))
theorem qyl : ∀ w ∈ u_ws RX11 TX11 55, w ∈ wsX11_emit := uiM qOr qga (by decide +kernel)
theorem qE3 : (.fieldLink RX11 246 "MarchHaresModel" "newCodes" "I" : Cond) ∈ wsX11_emit := qOr 1481 (by decide +kernel)
theorem qaxG : (.fieldLink RX11 44 "MarchHaresModel" "newCode" "[I" : Cond) ∈ wsX11_emit := qOr 448 (by decide +kernel)
theorem qaBt : (.fieldLink RX11 47 "MarchHaresModel" "newOf" "[I" : Cond) ∈ wsX11_emit := qOr 449 (by decide +kernel)
set_option maxHeartbeats 4000000 in
set_option maxRecDepth 100000 in
theorem qzD (l : Launch) (dC : Nat → ClassId) (dI : Nat → Nat → Nat) (cyB cyI cyJ cyP : ClassId) (a0 jbP jco sz : Nat) (jaX jaF jaD ja7 jby jaM jaY jap jaK jal jam jax jao ja6 jaV ja8 jae jag jaf ja0 ja4 jaP jaZ jaH jaS jaU jaE jar jaL jah jaB jaa jaz jaG jab ja2 z0_s jaq jai jaO jaA jat jau jav jaj jas jaJ jak jad jay jac : Value) (jb8 : Int32) (jeD jf5 : NI) (jcQ p1 p2 : Int32) {Q : NI → NI → Int32 → Prop} (hw : qv8 jb8 jeD jf5 jcQ p1 p2 Q) : Met l yX11_emit wsX11_emit ({ frames := 1, cells := 0, slots := 0, locals := 20 }) (va_Pc [.ref a0, .int p1, .int p2] (cPc (dC, dI) (kT cyB cyI cyJ cyP) (qHg a0 jaX jaF jaD ja7 jby jb8 jaM jaY jap jaK jal jam jax jao ja6 jaV ja8 jae jag jaf ja0 ja4 jaP jbP jco jaZ jaH jaS jcQ jaU jaE jar jaL jah jaB jaa jaz jaG jab ja2 z0_s jaq jai jaO jaA jat jau jav jaj jas jaJ jak jad jay jac jbP cyI jeD jco cyI jf5) sz)) (va_Qv (fun (u : NI × NI × Int32) => Q u.1 u.2.1 u.2.2) (cB (dC, dI) (kT cyB cyI cyJ cyP) (va_A (qHg a0 jaX jaF jaD ja7 jby jb8 jaM jaY jap jaK jal jam jax jao ja6 jaV ja8 jae jag jaf ja0 ja4 jaP jbP jco jaZ jaH jaS jcQ jaU jaE jar jaL jah jaB jaa jaz jaG jab ja2 z0_s jaq jai jaO jaA jat jau jav jaj jas jaJ jak jad jay jac jbP cyI jeD jco cyI jf5) sz) (fun u : NI × NI × Int32 => ((qHg a0 jaX jaF jaD ja7 jby jb8 jaM jaY jap jaK jal jam jax jao ja6 jaV ja8 jae jag jaf ja0 ja4 jaP jbP jco jaZ jaH jaS u.2.2 jaU jaE jar jaL jah jaB jaa jaz jaG jab ja2 z0_s jaq jai jaO jaA jat jau jav jaj jas jaJ jak jad jay jac jbP cyI u.1 jco cyI u.2.1) : va_W))) (va_A (qHg a0 jaX jaF jaD ja7 jby jb8 jaM jaY jap jaK jal jam jax jao ja6 jaV ja8 jae jag jaf ja0 ja4 jaP jbP jco jaZ jaH jaS jcQ jaU jaE jar jaL jah jaB jaa jaz jaG jab ja2 z0_s jaq jai jaO jaA jat jau jav jaj jas jaJ jak jad jay jac jbP cyI jeD jco cyI jf5) sz)) 0 0 (va_A (qHg a0 jaX jaF jaD ja7 jby jb8 jaM jaY jap jaK jal jam jax jao ja6 jaV ja8 jae jag jaf ja0 ja4 jaP jbP jco jaZ jaH jaS jcQ jaU jaE jar jaL jah jaB jaa jaz jaG jab ja2 z0_s jaq jai jaO jaA jat jau jav jaj jas jaJ jak jad jay jac jbP cyI jeD jco cyI jf5) sz) := by
  refine Met.ofW (cc := cX11_emit) (maxL := 3) (ret := none) (by decide) rfl ?_
  intro p e s m args below meth c s₁ B hml hv
  obtain ⟨rfl, hsz, hP, hK, hD0, hNw⟩ := hv
  have hx := B.exec
  have hb := B.bytes
  have hr := B.returns
  have hts := atoms_spec (ws := wsX11_emit) B.pre
  have hown : s.vm.findClass RX11 = some m.cls := findClass_of_methodNamed B.named
  have hlocks := B.notSynchronized
  subst hsz
  have hD := hD0.self (sz := s.heap.size)
  generalize hAe : va_A (qHg a0 jaX jaF jaD ja7 jby jb8 jaM jaY jap jaK jal jam jax jao ja6 jaV ja8 jae jag jaf ja0 ja4 jaP jbP jco jaZ jaH jaS jcQ jaU jaE jar jaL jah jaB jaa jaz jaG jab ja2 z0_s jaq jai jaO jaA jat jau jav jaj jas jaJ jak jad jay jac jbP cyI jeD jco cyI jf5) s.heap.size = A at hD ⊢
  have hA : ∀ q : Nat, s.heap.size ≤ q → A q := fun q h => by rw [← hAe]; exact Or.inr h
  have hS : va_S A s.heap s.heap [] := va_S.rf
  have hP : va_P (dC, dI) vwCl (qHg a0 jaX jaF jaD ja7 jby jb8 jaM jaY jap jaK jal jam jax jao ja6 jaV ja8 jae jag jaf ja0 ja4 jaP jbP jco jaZ jaH jaS jcQ jaU jaE jar jaL jah jaB jaa jaz jaG jab ja2 z0_s jaq jai jaO jaA jat jau jav jaj jas jaJ jak jad jay jac jbP cyI jeD jco cyI jf5) s.heap := hP
  have hl := lv_entry ([.ref a0, .int p1, .int p2]) (n := 3) (nbq rfl)
  rw [lg_entry_eq]
  generalize (lg_sl ([.ref a0, .int p1, .int p2]) ++ List.replicate (3 - (lg_sl ([.ref a0, .int p1, .int p2])).length) Slot.unset).toArray = ls at hl ⊢
  have hl : lv_has ls 3 [(0, .ref a0), (1, .int p1), (2, .int p2)] := hl
  have C0 : cfx p s m _ meth c cX11_emit none wsX11_emit RX11 3 A (dC, dI) (kT cyB cyI cyJ cyP) := ⟨hx, hb, hr, hts, hown, hlocks, hml, hA, hK, hNw⟩
  clear hAe
  obtain ⟨H, hH⟩ : ∃ H, H = s.heap := ⟨_, rfl⟩
  rw [← hH] at hP ⊢
  have hS : va_S A s.heap H [] := by rw [hH]; exact va_S.rf
  have hS := hS
  refine lv_aload_n hx hb (qaa qmU 0 rfl) rfl (lv_at hl 0 rfl) ?_
  obtain ⟨hCc, hPc, hDc, hFc⟩ := qac (ws' := (qa8H a0 jaX jaF jaD ja7 jby jb8 jaM jaY jap jaK jal jam jax jao ja6 jaV ja8 jae jag jaf ja0 ja4 jaP jbP jco jaZ jaH jaS jcQ jaU jaE jar jaL jah jaB jaa jaz jaG jab ja2 z0_s jaq jai jaO jaA jat jau jav jaj jas jaJ jak jad jay jac)) hP hD hS hA [0] (by decide +kernel) rfl
  refine va_calli (va_runV (As := []) (rest := []) ⟨hx, hb, hml, hown, hts⟩ (qdQ l dC dI cyB cyI cyJ cyP a0 H.size (jaX) (jaF) (jaD) (ja7) (jby) (jaM) (jaY) (jap) (jaK) (jal) (jam) (jax) (jao) (ja6) (jaV) (ja8) (jae) (jag) (jaf) (ja0) (ja4) (jaP) (.ref jbP) (.ref jco) (jaZ) (jaH) (jaS) (.int jcQ) (jaU) (jaE) (jar) (jaL) (jah) (jaB) (jaa) (jaz) (jaG) (jab) (ja2) (z0_s) (jaq) (jai) (jaO) (jaA) (jat) (jau) (jav) (jaj) (jas) (jaJ) (jak) (jad) (jay) (jac) jb8 hw) (cwV 0 hts gX11_emit_X11_fine rfl rfl rfl (by decide +kernel) ⟨nbq rfl, nbq rfl⟩) ⟨qab, va_recv (q := (RX11, TX11, 55)) hK hPc (ci := 11) (q0 := 0) rfl rfl, qae hPc hK hDc hNw⟩ rfl rfl hl.1 rfl (lv_room (nbq rfl)) (qaa qmU 1 rfl) ⟨nbq rfl, nbq rfl⟩) hS (fun q _ h => hFc q h) hFc (fun r1 u t H1 locs ht hvm hw hB hz1 hk1 hS => ?_)
  obtain ⟨hP1, hK1, hD1⟩ := hB
  rw [ht] at hP1
  obtain ⟨hP, hD⟩ := qad (wr := [(jbP, .inl (cyI, 150, .inl jeD)), (jco, .inl (cyI, 150, .inl jf5))]) (w1 := (qa8H a0 jaX jaF jaD ja7 jby jb8 jaM jaY jap jaK jal jam jax jao ja6 jaV ja8 jae jag jaf ja0 ja4 jaP jbP jco jaZ jaH jaS jcQ jaU jaE jar jaL jah jaB jaa jaz jaG jab ja2 z0_s jaq jai jaO jaA jat jau jav jaj jas jaJ jak jad jay jac)) (wn := (qHg a0 jaX jaF jaD ja7 jby jb8 jaM jaY jap jaK jal jam jax jao ja6 jaV ja8 jae jag jaf ja0 ja4 jaP jbP jco jaZ jaH jaS jcQ jaU jaE jar jaL jah jaB jaa jaz jaG jab ja2 z0_s jaq jai jaO jaA jat jau jav jaj jas jaJ jak jad jay jac jbP cyI jeD jco cyI jf5)) hP hD [0] [1, 2] [2, 0, 1] hCc rfl (by decide +kernel) (by decide +kernel) (by decide +kernel) rfl hk1 hFc hP1 hD1
  generalize H1 = H at hP hS ⊢
  refine lv_if_ne (tgt := 8) hx hb (qaa qmU 2 rfl) (by decide) (fun c2 => ?_) (fun c2 => ?_)
  · have hw := hw.1 c2
    refine lv_aload_n hx hb (qaa qmU 4 rfl) rfl (lv_at hl 0 rfl) ?_
    refine va_get (D := (dC, dI)) (ci := 11) (v := .ref jbP) (C := RX11) (T := TX11) (N := 55) hx hb hts qyl hown hK hP 0 rfl rfl 23 (by decide) (hts _ qaxG) (fun _ h9 => h9) rfl (qaa qmU 5 rfl) ?_
    refine lv_aload_n hx hb (qaa qmU 6 rfl) rfl (lv_at hl 0 rfl) ?_
    refine va_get (D := (dC, dI)) (ci := 11) (v := .int jcQ) (C := RX11) (T := TX11) (N := 55) hx hb hts qyl hown hK hP 0 rfl rfl 28 (by decide) (hts _ qE3) (fun _ h9 => h9) rfl (qaa qmU 7 rfl) ?_
    refine lv_iload_n hx hb (qaa qmU 8 rfl) rfl (lv_at hl 1 rfl) ?_
    obtain ⟨hi9, hw⟩ := hw
    refine va_iast hx hb hK hP hD hS 1 1 rfl rfl hi9 (qaa qmU 9 rfl) (fun H locs hP hD hS => ?_)
    obtain ⟨f3, ef3⟩ : ∃ y : NI, y = upd jeD jcQ.toNatClampNeg p1 := ⟨_, rfl⟩
    have hw := hw f3 ef3
    have hP : va_P (dC, dI) vwCl (qHg a0 jaX jaF jaD ja7 jby jb8 jaM jaY jap jaK jal jam jax jao ja6 jaV ja8 jae jag jaf ja0 ja4 jaP jbP jco jaZ jaH jaS jcQ jaU jaE jar jaL jah jaB jaa jaz jaG jab ja2 z0_s jaq jai jaO jaA jat jau jav jaj jas jaJ jak jad jay jac jbP cyI f3 jco cyI jf5) H := by rw [ef3]; exact hP
    have hD : va_D A (qHg a0 jaX jaF jaD ja7 jby jb8 jaM jaY jap jaK jal jam jax jao ja6 jaV ja8 jae jag jaf ja0 ja4 jaP jbP jco jaZ jaH jaS jcQ jaU jaE jar jaL jah jaB jaa jaz jaG jab ja2 z0_s jaq jai jaO jaA jat jau jav jaj jas jaJ jak jad jay jac jbP cyI f3 jco cyI jf5) := by rw [ef3]; exact hD
    refine lv_aload_n hx hb (qaa qmU 10 rfl) rfl (lv_at hl 0 rfl) ?_
    refine va_get (D := (dC, dI)) (ci := 11) (v := .ref jco) (C := RX11) (T := TX11) (N := 55) hx hb hts qyl hown hK hP 0 rfl rfl 24 (by decide) (hts _ qaBt) (fun _ h9 => h9) rfl (qaa qmU 11 rfl) ?_
    refine lv_aload_n hx hb (qaa qmU 12 rfl) rfl (lv_at hl 0 rfl) ?_
    refine va_get (D := (dC, dI)) (ci := 11) (v := .int jcQ) (C := RX11) (T := TX11) (N := 55) hx hb hts qyl hown hK hP 0 rfl rfl 28 (by decide) (hts _ qE3) (fun _ h9 => h9) rfl (qaa qmU 13 rfl) ?_
    refine lv_iload_n hx hb (qaa qmU 14 rfl) rfl (lv_at hl 2 rfl) ?_
    obtain ⟨hi9, hw⟩ := hw
    refine va_iast hx hb hK hP hD hS 2 1 rfl rfl hi9 (qaa qmU 15 rfl) (fun H locs hP hD hS => ?_)
    obtain ⟨f4, ef4⟩ : ∃ y : NI, y = upd jf5 jcQ.toNatClampNeg p2 := ⟨_, rfl⟩
    have hw := hw f4 ef4
    have hP : va_P (dC, dI) vwCl (qHg a0 jaX jaF jaD ja7 jby jb8 jaM jaY jap jaK jal jam jax jao ja6 jaV ja8 jae jag jaf ja0 ja4 jaP jbP jco jaZ jaH jaS jcQ jaU jaE jar jaL jah jaB jaa jaz jaG jab ja2 z0_s jaq jai jaO jaA jat jau jav jaj jas jaJ jak jad jay jac jbP cyI f3 jco cyI f4) H := by rw [ef4]; exact hP
    have hD : va_D A (qHg a0 jaX jaF jaD ja7 jby jb8 jaM jaY jap jaK jal jam jax jao ja6 jaV ja8 jae jag jaf ja0 ja4 jaP jbP jco jaZ jaH jaS jcQ jaU jaE jar jaL jah jaB jaa jaz jaG jab ja2 z0_s jaq jai jaO jaA jat jau jav jaj jas jaJ jak jad jay jac jbP cyI f3 jco cyI f4) := by rw [ef4]; exact hD
    refine lv_aload_n hx hb (qaa qxE 0 rfl) rfl (lv_at hl 0 rfl) ?_
    refine lv_dup hx hb (qaa qxE 1 rfl) rfl ?_
    refine va_get (D := (dC, dI)) (ci := 11) (v := .int jcQ) (C := RX11) (T := TX11) (N := 55) hx hb hts qyl hown hK hP 0 rfl rfl 28 (by decide) (hts _ qE3) (fun _ h9 => h9) rfl (qaa qxE 2 rfl) ?_
    refine lv_iconst (v := 1) hx hb (qaa qxE 3 rfl) (by decide) ?_
    refine lv_iadd hx hb (qaa qxE 4 rfl) ?_
    refine lv_topi (fun x5 ex5 => ?_)
    have hw := hw x5 ex5
    refine va_put (D := (dC, dI)) (ci := 11) (v := .int x5) (ty := .int) (C := RX11) (T := TX11) (N := 55) hx hb hts qyl tyX11 tyX11_ok nmX11 hown hK hP hD hS 0 rfl rfl 28 (by decide) (hts _ qE3) (fun _ h9 => h9) rfl (by decide +kernel) rfl rfl (nbq rfl) (qaa qxE 5 rfl) (fun H locs hP hD hS => ?_)
    have hP : va_P (dC, dI) vwCl (qHg a0 jaX jaF jaD ja7 jby jb8 jaM jaY jap jaK jal jam jax jao ja6 jaV ja8 jae jag jaf ja0 ja4 jaP jbP jco jaZ jaH jaS x5 jaU jaE jar jaL jah jaB jaa jaz jaG jab ja2 z0_s jaq jai jaO jaA jat jau jav jaj jas jaJ jak jad jay jac jbP cyI f3 jco cyI f4) H := hP
    have hD : va_D A (qHg a0 jaX jaF jaD ja7 jby jb8 jaM jaY jap jaK jal jam jax jao ja6 jaV ja8 jae jag jaf ja0 ja4 jaP jbP jco jaZ jaH jaS x5 jaU jaE jar jaL jah jaB jaa jaz jaG jab ja2 z0_s jaq jai jaO jaA jat jau jav jaj jas jaJ jak jad jay jac jbP cyI f3 jco cyI f4) := hD
    exact ((W.vret hx hb hr (fun t ht hW => ⟨⟨(f3, f4, x5), rfl, hw, by rw [ht]; exact hP, va_K.moved hW.alike hK, hD⟩, hS.F ht⟩) hS.2.2 (qaa qxE 6 rfl)))
  · have hw := hw.2 c2
    exact ((W.vret hx hb hr (fun t ht hW => ⟨⟨(jeD, jf5, jcQ), rfl, hw, by rw [ht]; exact hP, va_K.moved hW.alike hK, hD⟩, hS.F ht⟩) hS.2.2 (qaa qmU 3 rfl)))
theorem qaIH : ∀ w ∈ u_ws RX11 TX11 55, w ∈ wsX11_far := uiM qVt qga (by decide +kernel)
theorem qaNb : (.fieldLink RX11 3 "MarchHaresModel" "thrown" "I" : Cond) ∈ wsX11_far := qVt 589 (by decide +kernel)
set_option maxHeartbeats 4000000 in
set_option maxRecDepth 100000 in
theorem qa2i (l : Launch) (dC : Nat → ClassId) (dI : Nat → Nat → Nat) (cyB cyI cyJ cyP : ClassId) (a0 jaQ ja5 sz : Nat) (jaD ja7 jby jbf jaM jaY jap jaK jal jam jax jao jaV ja8 jae jag jaf ja4 jaP jaw jaI jaZ jaH jaS jan jaU jaE jar jaL jah jaB jaa jaz jaG jab ja2 z0_s jaq jai jaO jaA jat jau jav jaj jas jaJ jak jad jay jac : Value) (jaN : Int32) (jbv : NI) (jbd : Int32) (ja9 : NI) (p1 p2 : Int32) {Q : Int32 → Int32 → NI → Prop} (hw : qakv jaN jbv jbd ja9 p1 p2 Q) : Met l yX11_far wsX11_far ({ frames := 2, cells := 0, slots := 0, locals := 45 }) (va_Pc [.ref a0, .int p1, .int p2] (cPc (dC, dI) (kT cyB cyI cyJ cyP) (qMC a0 jbd jaQ jaD ja7 jby jbf jaM jaY jap jaK jal jam jax jao ja5 jaV ja8 jae jag jaf jaN ja4 jaP jaw jaI jaZ jaH jaS jan jaU jaE jar jaL jah jaB jaa jaz jaG jab ja2 z0_s jaq jai jaO jaA jat jau jav jaj jas jaJ jak jad jay jac jaQ cyI ja9 ja5 cyI jbv) sz)) (va_Qi (fun (r : Int32) (u : Int32 × NI) => Q r u.1 u.2) (cB (dC, dI) (kT cyB cyI cyJ cyP) (va_A (qMC a0 jbd jaQ jaD ja7 jby jbf jaM jaY jap jaK jal jam jax jao ja5 jaV ja8 jae jag jaf jaN ja4 jaP jaw jaI jaZ jaH jaS jan jaU jaE jar jaL jah jaB jaa jaz jaG jab ja2 z0_s jaq jai jaO jaA jat jau jav jaj jas jaJ jak jad jay jac jaQ cyI ja9 ja5 cyI jbv) sz) (fun u : Int32 × NI => ((qMC a0 u.1 jaQ jaD ja7 jby jbf jaM jaY jap jaK jal jam jax jao ja5 jaV ja8 jae jag jaf jaN ja4 jaP jaw jaI jaZ jaH jaS jan jaU jaE jar jaL jah jaB jaa jaz jaG jab ja2 z0_s jaq jai jaO jaA jat jau jav jaj jas jaJ jak jad jay jac jaQ cyI u.2 ja5 cyI jbv) : va_W))) (va_A (qMC a0 jbd jaQ jaD ja7 jby jbf jaM jaY jap jaK jal jam jax jao ja5 jaV ja8 jae jag jaf jaN ja4 jaP jaw jaI jaZ jaH jaS jan jaU jaE jar jaL jah jaB jaa jaz jaG jab ja2 z0_s jaq jai jaO jaA jat jau jav jaj jas jaJ jak jad jay jac jaQ cyI ja9 ja5 cyI jbv) sz)) 0 0 (va_A (qMC a0 jbd jaQ jaD ja7 jby jbf jaM jaY jap jaK jal jam jax jao ja5 jaV ja8 jae jag jaf jaN ja4 jaP jaw jaI jaZ jaH jaS jan jaU jaE jar jaL jah jaB jaa jaz jaG jab ja2 z0_s jaq jai jaO jaA jat jau jav jaj jas jaJ jak jad jay jac jaQ cyI ja9 ja5 cyI jbv) sz) := by
  refine Met.ofW (cc := cX11_far) (maxL := 3) (ret := (some .int)) (by decide) rfl ?_
  intro p e s m args below meth c s₁ B hml hv
  obtain ⟨rfl, hsz, hP, hK, hD0, hNw⟩ := hv
  have hx := B.exec
  have hb := B.bytes
  have hr := B.returns
  have hts := atoms_spec (ws := wsX11_far) B.pre
  have hown : s.vm.findClass RX11 = some m.cls := findClass_of_methodNamed B.named
  have hlocks := B.notSynchronized
  subst hsz
  have hD := hD0.self (sz := s.heap.size)
  generalize hAe : va_A (qMC a0 jbd jaQ jaD ja7 jby jbf jaM jaY jap jaK jal jam jax jao ja5 jaV ja8 jae jag jaf jaN ja4 jaP jaw jaI jaZ jaH jaS jan jaU jaE jar jaL jah jaB jaa jaz jaG jab ja2 z0_s jaq jai jaO jaA jat jau jav jaj jas jaJ jak jad jay jac jaQ cyI ja9 ja5 cyI jbv) s.heap.size = A at hD ⊢
  have hA : ∀ q : Nat, s.heap.size ≤ q → A q := fun q h => by rw [← hAe]; exact Or.inr h
  have hS : va_S A s.heap s.heap [] := va_S.rf
  have hP : va_P (dC, dI) vwCl (qMC a0 jbd jaQ jaD ja7 jby jbf jaM jaY jap jaK jal jam jax jao ja5 jaV ja8 jae jag jaf jaN ja4 jaP jaw jaI jaZ jaH jaS jan jaU jaE jar jaL jah jaB jaa jaz jaG jab ja2 z0_s jaq jai jaO jaA jat jau jav jaj jas jaJ jak jad jay jac jaQ cyI ja9 ja5 cyI jbv) s.heap := hP
  have hl := lv_entry ([.ref a0, .int p1, .int p2]) (n := 3) (nbq rfl)
  rw [lg_entry_eq]
  generalize (lg_sl ([.ref a0, .int p1, .int p2]) ++ List.replicate (3 - (lg_sl ([.ref a0, .int p1, .int p2])).length) Slot.unset).toArray = ls at hl ⊢
  have hl : lv_has ls 3 [(0, .ref a0), (1, .int p1), (2, .int p2)] := hl
  have C0 : cfx p s m _ meth c cX11_far (some .int) wsX11_far RX11 3 A (dC, dI) (kT cyB cyI cyJ cyP) := ⟨hx, hb, hr, hts, hown, hlocks, hml, hA, hK, hNw⟩
  clear hAe
  obtain ⟨H, hH⟩ : ∃ H, H = s.heap := ⟨_, rfl⟩
  rw [← hH] at hP ⊢
  have hS : va_S A s.heap H [] := by rw [hH]; exact va_S.rf
  have hS := hS
  refine lv_aload_n hx hb (qaa qoq 0 rfl) rfl (lv_at hl 0 rfl) ?_
  refine lv_iconst (v := 0) hx hb (qaa qoq 1 rfl) (by decide) ?_
  refine va_put (D := (dC, dI)) (ci := 11) (v := .int 0) (ty := .int) (C := RX11) (T := TX11) (N := 55) hx hb hts qaIH tyX11 tyX11_ok nmX11 hown hK hP hD hS 0 rfl rfl 0 (by decide) (hts _ qaNb) (fun _ h9 => h9) rfl (by decide +kernel) rfl rfl (nbq rfl) (qaa qoq 2 rfl) (fun H locs hP hD hS => ?_)
  have hP : va_P (dC, dI) vwCl (qMC a0 0 jaQ jaD ja7 jby jbf jaM jaY jap jaK jal jam jax jao ja5 jaV ja8 jae jag jaf jaN ja4 jaP jaw jaI jaZ jaH jaS jan jaU jaE jar jaL jah jaB jaa jaz jaG jab ja2 z0_s jaq jai jaO jaA jat jau jav jaj jas jaJ jak jad jay jac jaQ cyI ja9 ja5 cyI jbv) H := hP
  have hD : va_D A (qMC a0 0 jaQ jaD ja7 jby jbf jaM jaY jap jaK jal jam jax jao ja5 jaV ja8 jae jag jaf jaN ja4 jaP jaw jaI jaZ jaH jaS jan jaU jaE jar jaL jah jaB jaa jaz jaG jab ja2 z0_s jaq jai jaO jaA jat jau jav jaj jas jaJ jak jad jay jac jaQ cyI ja9 ja5 cyI jbv) := hD
  refine lv_aload_n hx hb (qaa qoq 3 rfl) rfl (lv_at hl 0 rfl) ?_
  refine lv_iload_n hx hb (qaa qoq 4 rfl) rfl (lv_at hl 1 rfl) ?_
  refine lv_iconst (v := 1) hx hb (qaa qoq 5 rfl) (by decide) ?_
  obtain ⟨hCc, hPc, hDc, hFc⟩ := qac (ws' := (qaOH a0 0 jaQ jaD ja7 jby jbf jaM jaY jap jaK jal jam jax jao ja5 jaV ja8 jae jag jaf jaN ja4 jaP jaw jaI jaZ jaH jaS jan jaU jaE jar jaL jah jaB jaa jaz jaG jab ja2 z0_s jaq jai jaO jaA jat jau jav jaj jas jaJ jak jad jay jac jaQ cyI ja9)) hP hD hS hA [0, 1] (by decide +kernel) rfl
  refine va_calli (va_runV (As := [.int p1, .int 1]) (rest := []) ⟨hx, hb, hml, hown, hts⟩ (qCZ l dC dI cyB cyI cyJ cyP a0 jaQ H.size (jaD) (ja7) (jby) (jbf) (jaM) (jaY) (jap) (jaK) (jal) (jam) (jax) (jao) (.ref ja5) (jaV) (ja8) (jae) (jag) (jaf) (ja4) (jaP) (jaw) (jaI) (jaZ) (jaH) (jaS) (jan) (jaU) (jaE) (jar) (jaL) (jah) (jaB) (jaa) (jaz) (jaG) (jab) (ja2) (z0_s) (jaq) (jai) (jaO) (jaA) (jat) (jau) (jav) (jaj) (jas) (jaJ) (jak) (jad) (jay) (jac) jaN 0 ja9 p1 1 hw) (cwV 2 hts gX11_far_X11_isForm rfl rfl rfl (by decide +kernel) ⟨nbq rfl, nbq rfl⟩) ⟨qab, va_recv (q := (RX11, TX11, 55)) hK hPc (ci := 11) (q0 := 0) rfl rfl, qae hPc hK hDc hNw⟩ rfl rfl hl.1 rfl (lv_room (nbq rfl)) (qaa qoq 6 rfl) ⟨nbq rfl, nbq rfl⟩) hS (fun q _ h => hFc q h) hFc (fun r3 u t H1 locs ht hvm hw hB hz1 hk1 hS => ?_)
  obtain ⟨x1, f2⟩ := u
  obtain ⟨hP1, hK1, hD1⟩ := hB
  rw [ht] at hP1
  obtain ⟨hP, hD⟩ := qad (wr := (qbaz ja5 cyI jbv)) (w1 := (qaOH a0 x1 jaQ jaD ja7 jby jbf jaM jaY jap jaK jal jam jax jao ja5 jaV ja8 jae jag jaf jaN ja4 jaP jaw jaI jaZ jaH jaS jan jaU jaE jar jaL jah jaB jaa jaz jaG jab ja2 z0_s jaq jai jaO jaA jat jau jav jaj jas jaJ jak jad jay jac jaQ cyI f2)) (wn := (qMC a0 x1 jaQ jaD ja7 jby jbf jaM jaY jap jaK jal jam jax jao ja5 jaV ja8 jae jag jaf jaN ja4 jaP jaw jaI jaZ jaH jaS jan jaU jaE jar jaL jah jaB jaa jaz jaG jab ja2 z0_s jaq jai jaO jaA jat jau jav jaj jas jaJ jak jad jay jac jaQ cyI f2 ja5 cyI jbv)) hP hD [0, 1] [2] [1, 2, 0] hCc rfl (by decide +kernel) (by decide +kernel) (by decide +kernel) rfl hk1 hFc hP1 hD1
  generalize H1 = H at hP hS ⊢
  refine lv_if_eq (tgt := 32) hx hb (qaa qoq 7 rfl) (by decide) (fun c4 => ?_) (fun c4 => ?_)
  · have hw := hw.1 c4
    refine lv_iconst (v := 0) hx hb (qaa qzV 2 rfl) (by decide) ?_
    exact ((W.iret (v := 0) hx hb hr (fun t ht hW => ⟨⟨0, (x1, f2), rfl, hw, by rw [ht]; exact hP, va_K.moved hW.alike hK, hD⟩, hS.F ht⟩) hS.2.2 (qaa qzV 3 rfl)))
  · have hw := hw.2 c4
    refine lv_aload_n hx hb (qaa qoq 8 rfl) rfl (lv_at hl 0 rfl) ?_
    refine lv_iload_n hx hb (qaa qoq 9 rfl) rfl (lv_at hl 2 rfl) ?_
    refine lv_iconst (v := 1) hx hb (qaa qoq 10 rfl) (by decide) ?_
    obtain ⟨hCc, hPc, hDc, hFc⟩ := qac (ws' := (qaOH a0 x1 jaQ jaD ja7 jby jbf jaM jaY jap jaK jal jam jax jao ja5 jaV ja8 jae jag jaf jaN ja4 jaP jaw jaI jaZ jaH jaS jan jaU jaE jar jaL jah jaB jaa jaz jaG jab ja2 z0_s jaq jai jaO jaA jat jau jav jaj jas jaJ jak jad jay jac jaQ cyI f2)) hP hD hS hA [0, 1] (by decide +kernel) rfl
    refine va_calli (va_runV (As := [.int p2, .int 1]) (rest := []) ⟨hx, hb, hml, hown, hts⟩ (qCZ l dC dI cyB cyI cyJ cyP a0 jaQ H.size (jaD) (ja7) (jby) (jbf) (jaM) (jaY) (jap) (jaK) (jal) (jam) (jax) (jao) (.ref ja5) (jaV) (ja8) (jae) (jag) (jaf) (ja4) (jaP) (jaw) (jaI) (jaZ) (jaH) (jaS) (jan) (jaU) (jaE) (jar) (jaL) (jah) (jaB) (jaa) (jaz) (jaG) (jab) (ja2) (z0_s) (jaq) (jai) (jaO) (jaA) (jat) (jau) (jav) (jaj) (jas) (jaJ) (jak) (jad) (jay) (jac) jaN x1 f2 p2 1 hw) (cwV 2 hts gX11_far_X11_isForm rfl rfl rfl (by decide +kernel) ⟨nbq rfl, nbq rfl⟩) ⟨qab, va_recv (q := (RX11, TX11, 55)) hK hPc (ci := 11) (q0 := 0) rfl rfl, qae hPc hK hDc hNw⟩ rfl rfl hl.1 rfl (lv_room (nbq rfl)) (qaa qoq 11 rfl) ⟨nbq rfl, nbq rfl⟩) hS (fun q _ h => hFc q h) hFc (fun r7 u t H1 locs ht hvm hw hB hz1 hk1 hS => ?_)
    obtain ⟨x5, f6⟩ := u
    obtain ⟨hP1, hK1, hD1⟩ := hB
    rw [ht] at hP1
    obtain ⟨hP, hD⟩ := qad (wr := (qbaz ja5 cyI jbv)) (w1 := (qaOH a0 x5 jaQ jaD ja7 jby jbf jaM jaY jap jaK jal jam jax jao ja5 jaV ja8 jae jag jaf jaN ja4 jaP jaw jaI jaZ jaH jaS jan jaU jaE jar jaL jah jaB jaa jaz jaG jab ja2 z0_s jaq jai jaO jaA jat jau jav jaj jas jaJ jak jad jay jac jaQ cyI f6)) (wn := (qMC a0 x5 jaQ jaD ja7 jby jbf jaM jaY jap jaK jal jam jax jao ja5 jaV ja8 jae jag jaf jaN ja4 jaP jaw jaI jaZ jaH jaS jan jaU jaE jar jaL jah jaB jaa jaz jaG jab ja2 z0_s jaq jai jaO jaA jat jau jav jaj jas jaJ jak jad jay jac jaQ cyI f6 ja5 cyI jbv)) hP hD [0, 1] [2] [1, 2, 0] hCc rfl (by decide +kernel) (by decide +kernel) (by decide +kernel) rfl hk1 hFc hP1 hD1
    generalize H1 = H at hP hS ⊢
    refine lv_if_eq (tgt := 32) hx hb (qaa qoq 12 rfl) (by decide) (fun c8 => ?_) (fun c8 => ?_)
    · have hw := hw.1 c8
      refine lv_iconst (v := 0) hx hb (qaa qzV 2 rfl) (by decide) ?_
      exact ((W.iret (v := 0) hx hb hr (fun t ht hW => ⟨⟨0, (x5, f6), rfl, hw, by rw [ht]; exact hP, va_K.moved hW.alike hK, hD⟩, hS.F ht⟩) hS.2.2 (qaa qzV 3 rfl)))
    · have hw := hw.2 c8
      refine lv_aload_n hx hb (qaa qoq 13 rfl) rfl (lv_at hl 0 rfl) ?_
      refine lv_iload_n hx hb (qaa qoq 14 rfl) rfl (lv_at hl 1 rfl) ?_
      refine lv_iload_n hx hb (qaa qoq 15 rfl) rfl (lv_at hl 2 rfl) ?_
      obtain ⟨hCc, hPc, hDc, hFc⟩ := qac (ws' := (qa9z a0 x5 jaQ jaD ja7 jby jbf jaM jaY jap jaK jal jam jax jao ja5 jaV ja8 jae jag jaf jaN ja4 jaP jaw jaI jaZ jaH jaS jan jaU jaE jar jaL jah jaB jaa jaz jaG jab ja2 z0_s jaq jai jaO jaA jat jau jav jaj jas jaJ jak jad jay jac ja5 cyI jbv)) hP hD hS hA [0, 2] (by decide +kernel) rfl
      refine va_calli (va_runV (As := [.int p1, .int p2]) (rest := []) ⟨hx, hb, hml, hown, hts⟩ (qvr l dC dI cyB cyI cyJ cyP a0 ja5 H.size (.int x5) (.ref jaQ) (jaD) (ja7) (jby) (jbf) (jaM) (jaY) (jap) (jaK) (jal) (jam) (jax) (jao) (jaV) (ja8) (jae) (jag) (jaf) (.int jaN) (ja4) (jaP) (jaw) (jaI) (jaZ) (jaH) (jaS) (jan) (jaU) (jaE) (jar) (jaL) (jah) (jaB) (jaa) (jaz) (jaG) (jab) (ja2) (z0_s) (jaq) (jai) (jaO) (jaA) (jat) (jau) (jav) (jaj) (jas) (jaJ) (jak) (jad) (jay) (jac) jbv p1 p2 hw) (cwV 2 hts gX11_far_X11_farOf rfl rfl rfl (by decide +kernel) ⟨nbq rfl, nbq rfl⟩) ⟨qab, va_recv (q := (RX11, TX11, 55)) hK hPc (ci := 11) (q0 := 0) rfl rfl, qae hPc hK hDc hNw⟩ rfl rfl hl.1 rfl (lv_room (nbq rfl)) (qaa qzV 0 rfl) ⟨nbq rfl, nbq rfl⟩) hS (fun q _ h => hFc q h) hFc (fun r9 u t H1 locs ht hvm hw hB hz1 hk1 hS => ?_)
      obtain ⟨hP1, hK1, hD1⟩ := hB
      rw [ht] at hP1
      obtain ⟨hP, hD⟩ := qad (wr := [(jaQ, .inl (cyI, 2, .inl f6))]) (w1 := (qa9z a0 x5 jaQ jaD ja7 jby jbf jaM jaY jap jaK jal jam jax jao ja5 jaV ja8 jae jag jaf jaN ja4 jaP jaw jaI jaZ jaH jaS jan jaU jaE jar jaL jah jaB jaa jaz jaG jab ja2 z0_s jaq jai jaO jaA jat jau jav jaj jas jaJ jak jad jay jac ja5 cyI jbv)) (wn := (qMC a0 x5 jaQ jaD ja7 jby jbf jaM jaY jap jaK jal jam jax jao ja5 jaV ja8 jae jag jaf jaN ja4 jaP jaw jaI jaZ jaH jaS jan jaU jaE jar jaL jah jaB jaa jaz jaG jab ja2 z0_s jaq jai jaO jaA jat jau jav jaj jas jaJ jak jad jay jac jaQ cyI f6 ja5 cyI jbv)) hP hD [0, 2] [1] [1, 0, 2] hCc rfl (by decide +kernel) (by decide +kernel) (by decide +kernel) rfl hk1 hFc hP1 hD1
      generalize H1 = H at hP hS ⊢
      refine lv_goto (tgt := 33) hx hb (qaa qzV 1 rfl) (by decide) ?_
      exact ((W.iret (v := r9) hx hb hr (fun t ht hW => ⟨⟨r9, (x5, f6), rfl, hw, by rw [ht]; exact hP, va_K.moved hW.alike hK, hD⟩, hS.F ht⟩) hS.2.2 (qaa qzV 3 rfl)))
theorem qZr : ∀ w ∈ u_ws RX11 TX11 55, w ∈ wsX11_fault := uiM q9l qga (by decide +kernel)
theorem qarx : (.fieldLink RX11 17 "MarchHaresModel" "faultAt" "I" : Cond) ∈ wsX11_fault := q9l 399 (by decide +kernel)
theorem qaz7 : (.fieldLink RX11 3 "MarchHaresModel" "thrown" "I" : Cond) ∈ wsX11_fault := q9l 589 (by decide +kernel)
set_option maxHeartbeats 4000000 in
set_option maxRecDepth 100000 in
theorem qaTY (l : Launch) (dC : Nat → ClassId) (dI : Nat → Nat → Nat) (cyB cyI cyJ cyP : ClassId) (a0 sz : Nat) (jaF jaD ja7 jby jbf jaM jaY jaK jal jam jax jao ja6 jaV ja8 jae jag jaf ja0 ja4 jaP jaw jaI jaZ jaH jaS jan jaU jaE jar jaL jah jaB jaa jaz jaG jab ja2 z0_s jaq jai jaO jaA jat jau jav jaj jas jaJ jak jad jay jac : Value) (jgm jbd : Int32) {Q : Int32 → Int32 → Prop} (hw : q1o jgm jbd Q) : Met l yX11_fault wsX11_fault ({ frames := 0, cells := 0, slots := 0, locals := 0 }) (va_Pc [.ref a0] (cPc (dC, dI) (kT cyB cyI cyJ cyP) (qWw a0 jbd jaF jaD ja7 jby jbf jaM jaY jgm jaK jal jam jax jao ja6 jaV ja8 jae jag jaf ja0 ja4 jaP jaw jaI jaZ jaH jaS jan jaU jaE jar jaL jah jaB jaa jaz jaG jab ja2 z0_s jaq jai jaO jaA jat jau jav jaj jas jaJ jak jad jay jac) sz)) (va_Qi (fun (r u : Int32) => Q r u) (cB (dC, dI) (kT cyB cyI cyJ cyP) (va_A (qWw a0 jbd jaF jaD ja7 jby jbf jaM jaY jgm jaK jal jam jax jao ja6 jaV ja8 jae jag jaf ja0 ja4 jaP jaw jaI jaZ jaH jaS jan jaU jaE jar jaL jah jaB jaa jaz jaG jab ja2 z0_s jaq jai jaO jaA jat jau jav jaj jas jaJ jak jad jay jac) sz) (fun u : Int32 => ((qWw a0 u jaF jaD ja7 jby jbf jaM jaY jgm jaK jal jam jax jao ja6 jaV ja8 jae jag jaf ja0 ja4 jaP jaw jaI jaZ jaH jaS jan jaU jaE jar jaL jah jaB jaa jaz jaG jab ja2 z0_s jaq jai jaO jaA jat jau jav jaj jas jaJ jak jad jay jac) : va_W))) (va_A (qWw a0 jbd jaF jaD ja7 jby jbf jaM jaY jgm jaK jal jam jax jao ja6 jaV ja8 jae jag jaf ja0 ja4 jaP jaw jaI jaZ jaH jaS jan jaU jaE jar jaL jah jaB jaa jaz jaG jab ja2 z0_s jaq jai jaO jaA jat jau jav jaj jas jaJ jak jad jay jac) sz)) 0 0 (va_A (qWw a0 jbd jaF jaD ja7 jby jbf jaM jaY jgm jaK jal jam jax jao ja6 jaV ja8 jae jag jaf ja0 ja4 jaP jaw jaI jaZ jaH jaS jan jaU jaE jar jaL jah jaB jaa jaz jaG jab ja2 z0_s jaq jai jaO jaA jat jau jav jaj jas jaJ jak jad jay jac) sz) := by
  refine Met.ofW (cc := cX11_fault) (maxL := 1) (ret := (some .int)) (by decide) rfl ?_
  intro p e s m args below meth c s₁ B hml hv
  obtain ⟨rfl, hsz, hP, hK, hD0, hNw⟩ := hv
  have hx := B.exec
  have hb := B.bytes
  have hr := B.returns
  have hts := atoms_spec (ws := wsX11_fault) B.pre
  have hown : s.vm.findClass RX11 = some m.cls := findClass_of_methodNamed B.named
  have hlocks := B.notSynchronized
  subst hsz
  have hD := hD0.self (sz := s.heap.size)
  generalize hAe : va_A (qWw a0 jbd jaF jaD ja7 jby jbf jaM jaY jgm jaK jal jam jax jao ja6 jaV ja8 jae jag jaf ja0 ja4 jaP jaw jaI jaZ jaH jaS jan jaU jaE jar jaL jah jaB jaa jaz jaG jab ja2 z0_s jaq jai jaO jaA jat jau jav jaj jas jaJ jak jad jay jac) s.heap.size = A at hD ⊢
  have hA : ∀ q : Nat, s.heap.size ≤ q → A q := fun q h => by rw [← hAe]; exact Or.inr h
  have hS : va_S A s.heap s.heap [] := va_S.rf
  have hP : va_P (dC, dI) vwCl (qWw a0 jbd jaF jaD ja7 jby jbf jaM jaY jgm jaK jal jam jax jao ja6 jaV ja8 jae jag jaf ja0 ja4 jaP jaw jaI jaZ jaH jaS jan jaU jaE jar jaL jah jaB jaa jaz jaG jab ja2 z0_s jaq jai jaO jaA jat jau jav jaj jas jaJ jak jad jay jac) s.heap := hP
  have hl := lv_entry ([.ref a0]) (n := 1) (nbq rfl)
  rw [lg_entry_eq]
  generalize (lg_sl ([.ref a0]) ++ List.replicate (1 - (lg_sl ([.ref a0])).length) Slot.unset).toArray = ls at hl ⊢
  have hl : lv_has ls 1 [(0, .ref a0)] := hl
  have C0 : cfx p s m _ meth c cX11_fault (some .int) wsX11_fault RX11 1 A (dC, dI) (kT cyB cyI cyJ cyP) := ⟨hx, hb, hr, hts, hown, hlocks, hml, hA, hK, hNw⟩
  clear hAe
  obtain ⟨H, hH⟩ : ∃ H, H = s.heap := ⟨_, rfl⟩
  rw [← hH] at hP ⊢
  have hS : va_S A s.heap H [] := by rw [hH]; exact va_S.rf
  have hS := hS
  refine lv_aload_n hx hb (qaa qAp 0 rfl) rfl (lv_at hl 0 rfl) ?_
  refine lv_iconst (v := 0) hx hb (qaa qAp 1 rfl) (by decide) ?_
  refine va_put (D := (dC, dI)) (ci := 11) (v := .int 0) (ty := .int) (C := RX11) (T := TX11) (N := 55) hx hb hts qZr tyX11 tyX11_ok nmX11 hown hK hP hD hS 0 rfl rfl 0 (by decide) (hts _ qaz7) (fun _ h9 => h9) rfl (by decide +kernel) rfl rfl (nbq rfl) (qaa qAp 2 rfl) (fun H locs hP hD hS => ?_)
  have hP : va_P (dC, dI) vwCl (qWw a0 0 jaF jaD ja7 jby jbf jaM jaY jgm jaK jal jam jax jao ja6 jaV ja8 jae jag jaf ja0 ja4 jaP jaw jaI jaZ jaH jaS jan jaU jaE jar jaL jah jaB jaa jaz jaG jab ja2 z0_s jaq jai jaO jaA jat jau jav jaj jas jaJ jak jad jay jac) H := hP
  have hD : va_D A (qWw a0 0 jaF jaD ja7 jby jbf jaM jaY jgm jaK jal jam jax jao ja6 jaV ja8 jae jag jaf ja0 ja4 jaP jaw jaI jaZ jaH jaS jan jaU jaE jar jaL jah jaB jaa jaz jaG jab ja2 z0_s jaq jai jaO jaA jat jau jav jaj jas jaJ jak jad jay jac) := hD
  refine lv_aload_n hx hb (qaa qAp 3 rfl) rfl (lv_at hl 0 rfl) ?_
  refine va_get (D := (dC, dI)) (ci := 11) (v := .int jgm) (C := RX11) (T := TX11) (N := 55) hx hb hts qZr hown hK hP 0 rfl rfl 8 (by decide) (hts _ qarx) (fun _ h9 => h9) rfl (qaa qAp 4 rfl) ?_
  exact ((W.iret (v := jgm) hx hb hr (fun t ht hW => ⟨⟨jgm, (0), rfl, hw, by rw [ht]; exact hP, va_K.moved hW.alike hK, hD⟩, hS.F ht⟩) hS.2.2 (qaa qAp 5 rfl)))
theorem qvL : ∀ w ∈ u_ws RX11 TX11 55, w ∈ wsX11_feed := uiM q41 qga (by decide +kernel)
theorem qAf : (.fieldLink RX11 111 "MarchHaresModel" "taped" "I" : Cond) ∈ wsX11_feed := q41 590 (by decide +kernel)
theorem qayQ : (.fieldLink RX11 20 "MarchHaresModel" "tape" "[I" : Cond) ∈ wsX11_feed := q41 400 (by decide +kernel)
theorem qaE0 : (.fieldLink RX11 3 "MarchHaresModel" "thrown" "I" : Cond) ∈ wsX11_feed := q41 589 (by decide +kernel)
set_option maxHeartbeats 4000000 in
set_option maxRecDepth 100000 in
theorem qEq {p : Program} {l : Launch} {e : Env} {s : State} {m : MethodId} {args : Array Value} {below : List Frame} {meth : Method} {c : Code} {A : Nat → Prop} (dC : Nat → ClassId) (dI : Nat → Nat → Nat) (cyB cyI cyJ cyP : ClassId) (a0 jaW : Nat) (jaF ja7 jby jbf jaM jaY jap jal jam jax jao ja6 jaV ja8 jae jag jaf ja0 ja4 jaP jaw jaI jaZ jaH jaS jan jaU jaE jar jaL jah jaB jaa jaz jaG jab ja2 z0_s jaq jai jaO jaA jat jau jav jaj jas jaJ jak jad jay jac : Value) (Q : Int32 → Int32 → NI → Int32 → Prop) (K23 : Int32 → NI → Int32 → Int32 → Int32 → Int32 → Int32 → Int32 → Int32 → Prop) (hK23 : ∀ (H : Heap) (locs : List Loc) (ls : Array Slot) (jbd : Int32) (jbC : NI) (jgt l1 l2 l3 l4 l5 l6 : Int32), va_P (dC, dI) vwCl (qwk a0 jbd jaF jgt ja7 jby jbf jaM jaY jap jaW jal jam jax jao ja6 jaV ja8 jae jag jaf ja0 ja4 jaP jaw jaI jaZ jaH jaS jan jaU jaE jar jaL jah jaB jaa jaz jaG jab ja2 z0_s jaq jai jaO jaA jat jau jav jaj jas jaJ jak jad jay jac jaW cyI jbC) H → va_D A (qwk a0 jbd jaF jgt ja7 jby jbf jaM jaY jap jaW jal jam jax jao ja6 jaV ja8 jae jag jaf ja0 ja4 jaP jaw jaI jaZ jaH jaS jan jaU jaE jar jaL jah jaB jaa jaz jaG jab ja2 z0_s jaq jai jaO jaA jat jau jav jaj jas jaJ jak jad jay jac jaW cyI jbC) → va_S A s.heap H locs → lv_has ls 8 [(0, .ref a0), (1, .int l1), (2, .int l2), (3, .int l3), (4, .int l4), (5, .int l5), (6, .int l6)] → K23 jbd jbC jgt l1 l2 l3 l4 l5 l6 → W p l e (headSpec wsX11_feed ({ frames := 0, cells := 0, slots := 0, locals := 0 })).room s m args below meth c H locs 0 0 (MQ below (va_Qi (fun (r : Int32) (u : Int32 × NI × Int32) => Q r u.1 u.2.1 u.2.2) (cB (dC, dI) (kT cyB cyI cyJ cyP) A (fun u : Int32 × NI × Int32 => ((qwk a0 u.1 jaF u.2.2 ja7 jby jbf jaM jaY jap jaW jal jam jax jao ja6 jaV ja8 jae jag jaf ja0 ja4 jaP jaw jaI jaZ jaH jaS jan jaU jaE jar jaL jah jaB jaa jaz jaG jab ja2 z0_s jaq jai jaO jaA jat jau jav jaj jas jaJ jak jad jay jac jaW cyI u.2.1) : va_W))) A) args s 0 0 A) (F0 m 23 ls [])) (C0 : cfx p s m args meth c cX11_feed (some .int) wsX11_feed RX11 8 A (dC, dI) (kT cyB cyI cyJ cyP)) : ∀ (H : Heap) (locs : List Loc) (ls : Array Slot) (jbd : Int32) (jbC : NI) (jgt l1 l2 l3 l4 l5 l6 s0 : Int32), va_P (dC, dI) vwCl (qwk a0 jbd jaF jgt ja7 jby jbf jaM jaY jap jaW jal jam jax jao ja6 jaV ja8 jae jag jaf ja0 ja4 jaP jaw jaI jaZ jaH jaS jan jaU jaE jar jaL jah jaB jaa jaz jaG jab ja2 z0_s jaq jai jaO jaA jat jau jav jaj jas jaJ jak jad jay jac jaW cyI jbC) H → va_D A (qwk a0 jbd jaF jgt ja7 jby jbf jaM jaY jap jaW jal jam jax jao ja6 jaV ja8 jae jag jaf ja0 ja4 jaP jaw jaI jaZ jaH jaS jan jaU jaE jar jaL jah jaB jaa jaz jaG jab ja2 z0_s jaq jai jaO jaA jat jau jav jaj jas jaJ jak jad jay jac jaW cyI jbC) → va_S A s.heap H locs → lv_has ls 8 [(0, .ref a0), (1, .int l1), (2, .int l2), (3, .int l3), (4, .int l4), (5, .int l5), (6, .int l6)] → qxP Q K23 jbd jbC jgt l1 l2 l3 l4 l5 l6 s0 → W p l e (headSpec wsX11_feed ({ frames := 0, cells := 0, slots := 0, locals := 0 })).room s m args below meth c H locs 0 0 (MQ below (va_Qi (fun (r : Int32) (u : Int32 × NI × Int32) => Q r u.1 u.2.1 u.2.2) (cB (dC, dI) (kT cyB cyI cyJ cyP) A (fun u : Int32 × NI × Int32 => ((qwk a0 u.1 jaF u.2.2 ja7 jby jbf jaM jaY jap jaW jal jam jax jao ja6 jaV ja8 jae jag jaf ja0 ja4 jaP jaw jaI jaZ jaH jaS jan jaU jaE jar jaL jah jaB jaa jaz jaG jab ja2 z0_s jaq jai jaO jaA jat jau jav jaj jas jaJ jak jad jay jac jaW cyI u.2.1) : va_W))) A) args s 0 0 A) (F0 m 76 ls [.int s0]) := by
  obtain ⟨hx, hb, hr, hts, hown, hlocks, hml, hA, hK, hNw⟩ := id C0
  intro H locs ls jbd jbC jgt l1 l2 l3 l4 l5 l6 s0 hP hD hS hl hw
  refine lv_istore (lv' := [(7, .int s0), (0, .ref a0), (1, .int l1), (2, .int l2), (3, .int l3), (4, .int l4), (5, .int l5), (6, .int l6)]) hx hb (qaa qiR 5 rfl) hl (by decide) rfl (fun ls hl => ?_)
  refine lv_aload_n hx hb (qaa qiR 6 rfl) rfl (lv_at hl 1 rfl) ?_
  refine va_get (D := (dC, dI)) (ci := 11) (v := .ref jaW) (C := RX11) (T := TX11) (N := 55) hx hb hts qvL hown hK hP 0 rfl rfl 9 (by decide) (hts _ qayQ) (fun _ h9 => h9) rfl (qaa qiR 7 rfl) ?_
  refine lv_aload_n hx hb (qaa qiR 8 rfl) rfl (lv_at hl 1 rfl) ?_
  refine va_get (D := (dC, dI)) (ci := 11) (v := .int jgt) (C := RX11) (T := TX11) (N := 55) hx hb hts qvL hown hK hP 0 rfl rfl 2 (by decide) (hts _ qAf) (fun _ h9 => h9) rfl (qaa qiR 9 rfl) ?_
  refine lv_iload hx hb (qaa qiR 10 rfl) (lv_at hl 0 rfl) ?_
  refine lv_bipush (v := 24) hx hb (qaa qiR 11 rfl) (by decide) ?_
  refine lv_bipush (v := 8) hx hb (qaa qiR 12 rfl) (by decide) ?_
  refine lv_iload hx hb (qaa qiR 13 rfl) (lv_at hl 7 rfl) ?_
  refine lv_iconst (v := 4) hx hb (qaa qiR 14 rfl) (by decide) ?_
  refine lv_irem hx hb (qaa qiR 15 rfl) (by decide) ?_
  refine lv_topi (fun x7 ex7 => ?_)
  have hw := hw x7 ex7
  refine lv_imul hx hb (qaa qju 0 rfl) ?_
  refine lv_isub hx hb (qaa qju 1 rfl) ?_
  refine lv_ishr hx hb (qaa qju 2 rfl) ?_
  refine lv_sipush (v := 255) hx hb (qaa qju 3 rfl) (by decide) ?_
  refine lv_iand hx hb (qaa qju 4 rfl) ?_
  refine lv_topi (fun x8 ex8 => ?_)
  have hw := hw x8 ex8
  obtain ⟨hi9, hw⟩ := hw
  refine va_iast hx hb hK hP hD hS 1 1 rfl rfl hi9 (qaa qju 5 rfl) (fun H locs hP hD hS => ?_)
  obtain ⟨f9, ef9⟩ : ∃ y : NI, y = upd jbC jgt.toNatClampNeg x8 := ⟨_, rfl⟩
  have hw := hw f9 ef9
  have hP : va_P (dC, dI) vwCl (qwk a0 jbd jaF jgt ja7 jby jbf jaM jaY jap jaW jal jam jax jao ja6 jaV ja8 jae jag jaf ja0 ja4 jaP jaw jaI jaZ jaH jaS jan jaU jaE jar jaL jah jaB jaa jaz jaG jab ja2 z0_s jaq jai jaO jaA jat jau jav jaj jas jaJ jak jad jay jac jaW cyI f9) H := by rw [ef9]; exact hP
  have hD : va_D A (qwk a0 jbd jaF jgt ja7 jby jbf jaM jaY jap jaW jal jam jax jao ja6 jaV ja8 jae jag jaf ja0 ja4 jaP jaw jaI jaZ jaH jaS jan jaU jaE jar jaL jah jaB jaa jaz jaG jab ja2 z0_s jaq jai jaO jaA jat jau jav jaj jas jaJ jak jad jay jac jaW cyI f9) := by rw [ef9]; exact hD
  refine lv_aload_n hx hb (qaa qju 6 rfl) rfl (lv_at hl 1 rfl) ?_
  refine lv_dup hx hb (qaa qju 7 rfl) rfl ?_
  refine va_get (D := (dC, dI)) (ci := 11) (v := .int jgt) (C := RX11) (T := TX11) (N := 55) hx hb hts qvL hown hK hP 0 rfl rfl 2 (by decide) (hts _ qAf) (fun _ h9 => h9) rfl (qaa qju 8 rfl) ?_
  refine lv_iconst (v := 1) hx hb (qaa qju 9 rfl) (by decide) ?_
  refine lv_iadd hx hb (qaa qju 10 rfl) ?_
  refine lv_topi (fun x10 ex10 => ?_)
  have hw := hw x10 ex10
  refine va_put (D := (dC, dI)) (ci := 11) (v := .int x10) (ty := .int) (C := RX11) (T := TX11) (N := 55) hx hb hts qvL tyX11 tyX11_ok nmX11 hown hK hP hD hS 0 rfl rfl 2 (by decide) (hts _ qAf) (fun _ h9 => h9) rfl (by decide +kernel) rfl rfl (nbq rfl) (qaa qju 11 rfl) (fun H locs hP hD hS => ?_)
  have hP : va_P (dC, dI) vwCl (qwk a0 jbd jaF x10 ja7 jby jbf jaM jaY jap jaW jal jam jax jao ja6 jaV ja8 jae jag jaf ja0 ja4 jaP jaw jaI jaZ jaH jaS jan jaU jaE jar jaL jah jaB jaa jaz jaG jab ja2 z0_s jaq jai jaO jaA jat jau jav jaj jas jaJ jak jad jay jac jaW cyI f9) H := hP
  have hD : va_D A (qwk a0 jbd jaF x10 ja7 jby jbf jaM jaY jap jaW jal jam jax jao ja6 jaV ja8 jae jag jaf ja0 ja4 jaP jaw jaI jaZ jaH jaS jan jaU jaE jar jaL jah jaB jaa jaz jaG jab ja2 z0_s jaq jai jaO jaA jat jau jav jaj jas jaJ jak jad jay jac jaW cyI f9) := hD
  obtain ⟨x11, ex11⟩ : ∃ y : Int32, y = l6 + 1 := ⟨_, rfl⟩
  have hw := hw x11 ex11
  refine lv_iinc (v := x11) (lv' := [(6, .int x11), (7, .int s0), (0, .ref a0), (1, .int l1), (2, .int l2), (3, .int l3), (4, .int l4), (5, .int l5)]) hx hb (qaa qju 12 rfl) hl (k := 7) rfl (by rw [ex11]; rfl) (by decide) rfl (fun ls hl => ?_)
  refine lv_goto (tgt := 23) hx hb (qaa qju 13 rfl) (by decide) ?_
  exact hK23 _ _ _ jbd f9 x10 l1 l2 l3 l4 l5 x11 hP hD hS (lv_sub hl [2, 3, 4, 5, 6, 7, 0] rfl) hw
set_option maxHeartbeats 4000000 in
set_option maxRecDepth 100000 in
theorem qaHt {p : Program} {l : Launch} {e : Env} {s : State} {m : MethodId} {args : Array Value} {below : List Frame} {meth : Method} {c : Code} {A : Nat → Prop} (dC : Nat → ClassId) (dI : Nat → Nat → Nat) (cyB cyI cyJ cyP : ClassId) (a0 jaW : Nat) (jaF ja7 jby jbf jaM jaY jap jal jam jax jao ja6 jaV ja8 jae jag jaf ja0 ja4 jaP jaw jaI jaZ jaH jaS jan jaU jaE jar jaL jah jaB jaa jaz jaG jab ja2 z0_s jaq jai jaO jaA jat jau jav jaj jas jaJ jak jad jay jac : Value) (Q : Int32 → Int32 → NI → Int32 → Prop) (C0 : cfx p s m args meth c cX11_feed (some .int) wsX11_feed RX11 8 A (dC, dI) (kT cyB cyI cyJ cyP)) : ∀ (n : Nat) (H : Heap) (locs : List Loc) (ls : Array Slot) (jbd : Int32) (jbC : NI) (jgt l1 l2 l3 l4 l5 l6 : Int32), va_P (dC, dI) vwCl (qwk a0 jbd jaF jgt ja7 jby jbf jaM jaY jap jaW jal jam jax jao ja6 jaV ja8 jae jag jaf ja0 ja4 jaP jaw jaI jaZ jaH jaS jan jaU jaE jar jaL jah jaB jaa jaz jaG jab ja2 z0_s jaq jai jaO jaA jat jau jav jaj jas jaJ jak jad jay jac jaW cyI jbC) H → va_D A (qwk a0 jbd jaF jgt ja7 jby jbf jaM jaY jap jaW jal jam jax jao ja6 jaV ja8 jae jag jaf ja0 ja4 jaP jaw jaI jaZ jaH jaS jan jaU jaE jar jaL jah jaB jaa jaz jaG jab ja2 z0_s jaq jai jaO jaA jat jau jav jaj jas jaJ jak jad jay jac jaW cyI jbC) → va_S A s.heap H locs → lv_has ls 8 [(0, .ref a0), (1, .int l1), (2, .int l2), (3, .int l3), (4, .int l4), (5, .int l5), (6, .int l6)] → qni Q n jbd jbC jgt l1 l2 l3 l4 l5 l6 → W p l e (headSpec wsX11_feed ({ frames := 0, cells := 0, slots := 0, locals := 0 })).room s m args below meth c H locs 0 0 (MQ below (va_Qi (fun (r : Int32) (u : Int32 × NI × Int32) => Q r u.1 u.2.1 u.2.2) (cB (dC, dI) (kT cyB cyI cyJ cyP) A (fun u : Int32 × NI × Int32 => ((qwk a0 u.1 jaF u.2.2 ja7 jby jbf jaM jaY jap jaW jal jam jax jao ja6 jaV ja8 jae jag jaf ja0 ja4 jaP jaw jaI jaZ jaH jaS jan jaU jaE jar jaL jah jaB jaa jaz jaG jab ja2 z0_s jaq jai jaO jaA jat jau jav jaj jas jaJ jak jad jay jac jaW cyI u.2.1) : va_W))) A) args s 0 0 A) (F0 m 23 ls []) := by
  obtain ⟨hx, hb, hr, hts, hown, hlocks, hml, hA, hK, hNw⟩ := id C0
  intro n
  induction n with
  | zero => intro H locs ls jbd jbC jgt l1 l2 l3 l4 l5 l6 hP hD hS hl hw; exact False.elim hw
  | succ n ih =>
    intro H locs ls jbd jbC jgt l1 l2 l3 l4 l5 l6 hP hD hS hl hw
    refine lv_iload hx hb (qaa qlT 13 rfl) (lv_at hl 6 rfl) ?_
    refine lv_bipush (v := 20) hx hb (qaa qlT 14 rfl) (by decide) ?_
    refine lv_icmp_ge (tgt := 120) hx hb (qaa qlT 15 rfl) (by decide) (fun c2 => ?_) (fun c2 => ?_)
    · have hw := hw.1 c2
      refine lv_aload_n hx hb (qaa qju 14 rfl) rfl (lv_at hl 0 rfl) ?_
      refine va_get (D := (dC, dI)) (ci := 11) (v := .int jgt) (C := RX11) (T := TX11) (N := 55) hx hb hts qvL hown hK hP 0 rfl rfl 2 (by decide) (hts _ qAf) (fun _ h9 => h9) rfl (qaa qju 15 rfl) ?_
      exact ((W.iret (v := jgt) hx hb hr (fun t ht hW => ⟨⟨jgt, (jbd, jbC, jgt), rfl, hw, by rw [ht]; exact hP, va_K.moved hW.alike hK, hD⟩, hS.F ht⟩) hS.2.2 (qaa qax7 0 rfl)))
    · have hw := hw.2 c2
      refine lv_iload hx hb (qaa qiM 0 rfl) (lv_at hl 6 rfl) ?_
      refine lv_iconst (v := 4) hx hb (qaa qiM 1 rfl) (by decide) ?_
      refine lv_icmp_ge (tgt := 40) hx hb (qaa qiM 2 rfl) (by decide) (fun c3 => ?_) (fun c3 => ?_)
      · have hw := hw.1 c3
        refine lv_iload hx hb (qaa qiM 5 rfl) (lv_at hl 6 rfl) ?_
        refine lv_bipush (v := 8) hx hb (qaa qiM 6 rfl) (by decide) ?_
        refine lv_icmp_ge (tgt := 51) hx hb (qaa qiM 7 rfl) (by decide) (fun c4 => ?_) (fun c4 => ?_)
        · have hw := hw.1 c4
          refine lv_iload hx hb (qaa qiM 10 rfl) (lv_at hl 6 rfl) ?_
          refine lv_bipush (v := 12) hx hb (qaa qiM 11 rfl) (by decide) ?_
          refine lv_icmp_ge (tgt := 62) hx hb (qaa qiM 12 rfl) (by decide) (fun c5 => ?_) (fun c5 => ?_)
          · have hw := hw.1 c5
            refine lv_iload hx hb (qaa qiM 15 rfl) (lv_at hl 6 rfl) ?_
            refine lv_bipush (v := 16) hx hb (qaa qiR 0 rfl) (by decide) ?_
            refine lv_icmp_ge (tgt := 74) hx hb (qaa qiR 1 rfl) (by decide) (fun c6 => ?_) (fun c6 => ?_)
            · have hw := hw.1 c6
              refine lv_iload hx hb (qaa qiR 4 rfl) (lv_at hl 5 rfl) ?_
              exact qEq dC dI cyB cyI cyJ cyP a0 jaW jaF ja7 jby jbf jaM jaY jap jal jam jax jao ja6 jaV ja8 jae jag jaf ja0 ja4 jaP jaw jaI jaZ jaH jaS jan jaU jaE jar jaL jah jaB jaa jaz jaG jab ja2 z0_s jaq jai jaO jaA jat jau jav jaj jas jaJ jak jad jay jac Q (qni Q n) ih C0 _ _ _ jbd jbC jgt l1 l2 l3 l4 l5 l6 l5 hP hD hS (lv_sub hl [0, 1, 2, 3, 4, 5, 6] rfl) hw
            · have hw := hw.2 c6
              refine lv_iload hx hb (qaa qiR 2 rfl) (lv_at hl 4 rfl) ?_
              refine lv_goto (tgt := 76) hx hb (qaa qiR 3 rfl) (by decide) ?_
              exact qEq dC dI cyB cyI cyJ cyP a0 jaW jaF ja7 jby jbf jaM jaY jap jal jam jax jao ja6 jaV ja8 jae jag jaf ja0 ja4 jaP jaw jaI jaZ jaH jaS jan jaU jaE jar jaL jah jaB jaa jaz jaG jab ja2 z0_s jaq jai jaO jaA jat jau jav jaj jas jaJ jak jad jay jac Q (qni Q n) ih C0 _ _ _ jbd jbC jgt l1 l2 l3 l4 l5 l6 l4 hP hD hS (lv_sub hl [0, 1, 2, 3, 4, 5, 6] rfl) hw
          · have hw := hw.2 c5
            refine lv_iload_n hx hb (qaa qiM 13 rfl) rfl (lv_at hl 3 rfl) ?_
            refine lv_goto (tgt := 76) hx hb (qaa qiM 14 rfl) (by decide) ?_
            exact qEq dC dI cyB cyI cyJ cyP a0 jaW jaF ja7 jby jbf jaM jaY jap jal jam jax jao ja6 jaV ja8 jae jag jaf ja0 ja4 jaP jaw jaI jaZ jaH jaS jan jaU jaE jar jaL jah jaB jaa jaz jaG jab ja2 z0_s jaq jai jaO jaA jat jau jav jaj jas jaJ jak jad jay jac Q (qni Q n) ih C0 _ _ _ jbd jbC jgt l1 l2 l3 l4 l5 l6 l3 hP hD hS (lv_sub hl [0, 1, 2, 3, 4, 5, 6] rfl) hw
        · have hw := hw.2 c4
          refine lv_iload_n hx hb (qaa qiM 8 rfl) rfl (lv_at hl 2 rfl) ?_
          refine lv_goto (tgt := 76) hx hb (qaa qiM 9 rfl) (by decide) ?_
          exact qEq dC dI cyB cyI cyJ cyP a0 jaW jaF ja7 jby jbf jaM jaY jap jal jam jax jao ja6 jaV ja8 jae jag jaf ja0 ja4 jaP jaw jaI jaZ jaH jaS jan jaU jaE jar jaL jah jaB jaa jaz jaG jab ja2 z0_s jaq jai jaO jaA jat jau jav jaj jas jaJ jak jad jay jac Q (qni Q n) ih C0 _ _ _ jbd jbC jgt l1 l2 l3 l4 l5 l6 l2 hP hD hS (lv_sub hl [0, 1, 2, 3, 4, 5, 6] rfl) hw
      · have hw := hw.2 c3
        refine lv_iload_n hx hb (qaa qiM 3 rfl) rfl (lv_at hl 1 rfl) ?_
        refine lv_goto (tgt := 76) hx hb (qaa qiM 4 rfl) (by decide) ?_
        exact qEq dC dI cyB cyI cyJ cyP a0 jaW jaF ja7 jby jbf jaM jaY jap jal jam jax jao ja6 jaV ja8 jae jag jaf ja0 ja4 jaP jaw jaI jaZ jaH jaS jan jaU jaE jar jaL jah jaB jaa jaz jaG jab ja2 z0_s jaq jai jaO jaA jat jau jav jaj jas jaJ jak jad jay jac Q (qni Q n) ih C0 _ _ _ jbd jbC jgt l1 l2 l3 l4 l5 l6 l1 hP hD hS (lv_sub hl [0, 1, 2, 3, 4, 5, 6] rfl) hw
set_option maxHeartbeats 4000000 in
set_option maxRecDepth 100000 in
theorem qaWM (l : Launch) (dC : Nat → ClassId) (dI : Nat → Nat → Nat) (cyB cyI cyJ cyP : ClassId) (a0 jaW sz : Nat) (jaF ja7 jby jbf jaM jaY jap jal jam jax jao ja6 jaV ja8 jae jag jaf ja0 ja4 jaP jaw jaI jaZ jaH jaS jan jaU jaE jar jaL jah jaB jaa jaz jaG jab ja2 z0_s jaq jai jaO jaA jat jau jav jaj jas jaJ jak jad jay jac : Value) (jbd : Int32) (jbC : NI) (jgt p1 p2 p3 p4 p5 : Int32) {Q : Int32 → Int32 → NI → Int32 → Prop} (hw : qacc jbd jbC jgt p1 p2 p3 p4 p5 Q) : Met l yX11_feed wsX11_feed ({ frames := 0, cells := 0, slots := 0, locals := 0 }) (va_Pc [.ref a0, .int p1, .int p2, .int p3, .int p4, .int p5] (cPc (dC, dI) (kT cyB cyI cyJ cyP) (qwk a0 jbd jaF jgt ja7 jby jbf jaM jaY jap jaW jal jam jax jao ja6 jaV ja8 jae jag jaf ja0 ja4 jaP jaw jaI jaZ jaH jaS jan jaU jaE jar jaL jah jaB jaa jaz jaG jab ja2 z0_s jaq jai jaO jaA jat jau jav jaj jas jaJ jak jad jay jac jaW cyI jbC) sz)) (va_Qi (fun (r : Int32) (u : Int32 × NI × Int32) => Q r u.1 u.2.1 u.2.2) (cB (dC, dI) (kT cyB cyI cyJ cyP) (va_A (qwk a0 jbd jaF jgt ja7 jby jbf jaM jaY jap jaW jal jam jax jao ja6 jaV ja8 jae jag jaf ja0 ja4 jaP jaw jaI jaZ jaH jaS jan jaU jaE jar jaL jah jaB jaa jaz jaG jab ja2 z0_s jaq jai jaO jaA jat jau jav jaj jas jaJ jak jad jay jac jaW cyI jbC) sz) (fun u : Int32 × NI × Int32 => ((qwk a0 u.1 jaF u.2.2 ja7 jby jbf jaM jaY jap jaW jal jam jax jao ja6 jaV ja8 jae jag jaf ja0 ja4 jaP jaw jaI jaZ jaH jaS jan jaU jaE jar jaL jah jaB jaa jaz jaG jab ja2 z0_s jaq jai jaO jaA jat jau jav jaj jas jaJ jak jad jay jac jaW cyI u.2.1) : va_W))) (va_A (qwk a0 jbd jaF jgt ja7 jby jbf jaM jaY jap jaW jal jam jax jao ja6 jaV ja8 jae jag jaf ja0 ja4 jaP jaw jaI jaZ jaH jaS jan jaU jaE jar jaL jah jaB jaa jaz jaG jab ja2 z0_s jaq jai jaO jaA jat jau jav jaj jas jaJ jak jad jay jac jaW cyI jbC) sz)) 0 0 (va_A (qwk a0 jbd jaF jgt ja7 jby jbf jaM jaY jap jaW jal jam jax jao ja6 jaV ja8 jae jag jaf ja0 ja4 jaP jaw jaI jaZ jaH jaS jan jaU jaE jar jaL jah jaB jaa jaz jaG jab ja2 z0_s jaq jai jaO jaA jat jau jav jaj jas jaJ jak jad jay jac jaW cyI jbC) sz) := by
  refine Met.ofW (cc := cX11_feed) (maxL := 8) (ret := (some .int)) (by decide) rfl ?_
  intro p e s m args below meth c s₁ B hml hv
  obtain ⟨rfl, hsz, hP, hK, hD0, hNw⟩ := hv
  have hx := B.exec
  have hb := B.bytes
  have hr := B.returns
  have hts := atoms_spec (ws := wsX11_feed) B.pre
  have hown : s.vm.findClass RX11 = some m.cls := findClass_of_methodNamed B.named
  have hlocks := B.notSynchronized
  subst hsz
  have hD := hD0.self (sz := s.heap.size)
  generalize hAe : va_A (qwk a0 jbd jaF jgt ja7 jby jbf jaM jaY jap jaW jal jam jax jao ja6 jaV ja8 jae jag jaf ja0 ja4 jaP jaw jaI jaZ jaH jaS jan jaU jaE jar jaL jah jaB jaa jaz jaG jab ja2 z0_s jaq jai jaO jaA jat jau jav jaj jas jaJ jak jad jay jac jaW cyI jbC) s.heap.size = A at hD ⊢
  have hA : ∀ q : Nat, s.heap.size ≤ q → A q := fun q h => by rw [← hAe]; exact Or.inr h
  have hS : va_S A s.heap s.heap [] := va_S.rf
  have hP : va_P (dC, dI) vwCl (qwk a0 jbd jaF jgt ja7 jby jbf jaM jaY jap jaW jal jam jax jao ja6 jaV ja8 jae jag jaf ja0 ja4 jaP jaw jaI jaZ jaH jaS jan jaU jaE jar jaL jah jaB jaa jaz jaG jab ja2 z0_s jaq jai jaO jaA jat jau jav jaj jas jaJ jak jad jay jac jaW cyI jbC) s.heap := hP
  have hl := lv_entry ([.ref a0, .int p1, .int p2, .int p3, .int p4, .int p5]) (n := 8) (nbq rfl)
  rw [lg_entry_eq]
  generalize (lg_sl ([.ref a0, .int p1, .int p2, .int p3, .int p4, .int p5]) ++ List.replicate (8 - (lg_sl ([.ref a0, .int p1, .int p2, .int p3, .int p4, .int p5])).length) Slot.unset).toArray = ls at hl ⊢
  have hl : lv_has ls 8 [(0, .ref a0), (1, .int p1), (2, .int p2), (3, .int p3), (4, .int p4), (5, .int p5)] := hl
  have C0 : cfx p s m _ meth c cX11_feed (some .int) wsX11_feed RX11 8 A (dC, dI) (kT cyB cyI cyJ cyP) := ⟨hx, hb, hr, hts, hown, hlocks, hml, hA, hK, hNw⟩
  clear hAe
  obtain ⟨H, hH⟩ : ∃ H, H = s.heap := ⟨_, rfl⟩
  rw [← hH] at hP ⊢
  have hS : va_S A s.heap H [] := by rw [hH]; exact va_S.rf
  have hS := hS
  refine lv_aload_n hx hb (qaa qlT 0 rfl) rfl (lv_at hl 0 rfl) ?_
  refine lv_iconst (v := 0) hx hb (qaa qlT 1 rfl) (by decide) ?_
  refine va_put (D := (dC, dI)) (ci := 11) (v := .int 0) (ty := .int) (C := RX11) (T := TX11) (N := 55) hx hb hts qvL tyX11 tyX11_ok nmX11 hown hK hP hD hS 0 rfl rfl 0 (by decide) (hts _ qaE0) (fun _ h9 => h9) rfl (by decide +kernel) rfl rfl (nbq rfl) (qaa qlT 2 rfl) (fun H locs hP hD hS => ?_)
  have hP : va_P (dC, dI) vwCl (qwk a0 0 jaF jgt ja7 jby jbf jaM jaY jap jaW jal jam jax jao ja6 jaV ja8 jae jag jaf ja0 ja4 jaP jaw jaI jaZ jaH jaS jan jaU jaE jar jaL jah jaB jaa jaz jaG jab ja2 z0_s jaq jai jaO jaA jat jau jav jaj jas jaJ jak jad jay jac jaW cyI jbC) H := hP
  have hD : va_D A (qwk a0 0 jaF jgt ja7 jby jbf jaM jaY jap jaW jal jam jax jao ja6 jaV ja8 jae jag jaf ja0 ja4 jaP jaw jaI jaZ jaH jaS jan jaU jaE jar jaL jah jaB jaa jaz jaG jab ja2 z0_s jaq jai jaO jaA jat jau jav jaj jas jaJ jak jad jay jac jaW cyI jbC) := hD
  refine lv_aload_n hx hb (qaa qlT 3 rfl) rfl (lv_at hl 0 rfl) ?_
  refine va_get (D := (dC, dI)) (ci := 11) (v := .int jgt) (C := RX11) (T := TX11) (N := 55) hx hb hts qvL hown hK hP 0 rfl rfl 2 (by decide) (hts _ qAf) (fun _ h9 => h9) rfl (qaa qlT 4 rfl) ?_
  refine lv_bipush (v := 20) hx hb (qaa qlT 5 rfl) (by decide) ?_
  refine lv_iadd hx hb (qaa qlT 6 rfl) ?_
  refine lv_sipush (v := 600) hx hb (qaa qlT 7 rfl) (by decide) ?_
  refine lv_icmp_le (tgt := 20) hx hb (qaa qlT 8 rfl) (by decide) (fun c1 => ?_) (fun c1 => ?_)
  · have hw := hw.1 c1
    refine lv_iconst (v := 0) hx hb (qaa qlT 11 rfl) (by decide) ?_
    refine lv_istore (lv' := [(6, .int 0), (0, .ref a0), (1, .int p1), (2, .int p2), (3, .int p3), (4, .int p4), (5, .int p5)]) hx hb (qaa qlT 12 rfl) hl (by decide) rfl (fun ls hl => ?_)
    obtain ⟨n9, hw⟩ := hw
    exact qaHt dC dI cyB cyI cyJ cyP a0 jaW jaF ja7 jby jbf jaM jaY jap jal jam jax jao ja6 jaV ja8 jae jag jaf ja0 ja4 jaP jaw jaI jaZ jaH jaS jan jaU jaE jar jaL jah jaB jaa jaz jaG jab ja2 z0_s jaq jai jaO jaA jat jau jav jaj jas jaJ jak jad jay jac Q C0 n9 _ _ _ 0 jbC jgt p1 p2 p3 p4 p5 0 hP hD hS (lv_sub hl [1, 2, 3, 4, 5, 6, 0] rfl) hw
  · have hw := hw.2 c1
    refine lv_iconst (v := (-1)) hx hb (qaa qlT 9 rfl) (by decide) ?_
    exact ((W.iret (v := (-1)) hx hb hr (fun t ht hW => ⟨⟨(-1), (0, jbC, jgt), rfl, hw, by rw [ht]; exact hP, va_K.moved hW.alike hK, hD⟩, hS.F ht⟩) hS.2.2 (qaa qlT 10 rfl)))
set_option maxHeartbeats 4000000 in
set_option maxRecDepth 100000 in
theorem qaIp {p : Program} {l : Launch} {e : Env} {s : State} {m : MethodId} {args : Array Value} {below : List Frame} {meth : Method} {c : Code} {A : Nat → Prop} (dC : Nat → ClassId) (dI : Nat → Nat → Nat) (cyB cyI cyJ cyP : ClassId) (Q : Int64 → Prop) (C0 : cfx p s m args meth c cX11_least (some .long) wsX11_least RX11 11 A (dC, dI) (kT cyB cyI cyJ cyP)) : ∀ (n : Nat) (H : Heap) (locs : List Loc) (ls : Array Slot) (l0 : Int64) (l2 : Int64) (l4 : Int32) (l5 : Int64) (l7 : Int64), va_P (dC, dI) vwCl [] H → va_D A [] → va_S A s.heap H locs → lv_has ls 11 [(0, .long l0), (2, .long l2), (4, .int l4), (5, .long l5), (7, .long l7)] → qKF Q n l0 l2 l4 l5 l7 → W p l e (headSpec wsX11_least ({ frames := 0, cells := 0, slots := 0, locals := 0 })).room s m args below meth c H locs 0 0 (MQ below (va_Ql (fun (r : Int64) (_ : Unit) => Q r ) (cB (dC, dI) (kT cyB cyI cyJ cyP) A (fun u : Unit => ([] : va_W))) A) args s 0 0 A) (F0 m 6 ls []) := by
  obtain ⟨hx, hb, hr, hts, hown, hlocks, hml, hA, hK, hNw⟩ := id C0
  intro n
  induction n with
  | zero => intro H locs ls l0 l2 l4 l5 l7 hP hD hS hl hw; exact False.elim hw
  | succ n ih =>
    intro H locs ls l0 l2 l4 l5 l7 hP hD hS hl hw
    refine lv_lload hx hb (qaa qi9 4 rfl) (lv_at hl 4 rfl) ?_
    refine lv_lconst (v := 0) hx hb (qaa qi9 5 rfl) (by decide) ?_
    refine W.lcmp hx hb (qaa qi9 6 rfl) ?_
    refine lv_if_eq (tgt := 31) hx hb (qaa qi9 7 rfl) (by decide) (fun c1 => ?_) (fun c1 => ?_)
    · have hw := hw.1 c1
      refine lv_iload hx hb (qaa qnQ 1 rfl) (lv_at hl 2 rfl) ?_
      refine lv_if_ne (tgt := 40) hx hb (qaa qnQ 2 rfl) (by decide) (fun c2 => ?_) (fun c2 => ?_)
      · have hw := hw.1 c2
        refine lv_lload_n hx hb (qaa qnQ 5 rfl) rfl (lv_at hl 1 rfl) ?_
        refine lv_lload hx hb (qaa qnQ 6 rfl) (lv_at hl 3 rfl) ?_
        obtain ⟨hz9, hw⟩ := hw
        refine lv_ldiv hx hb (qaa qnQ 7 rfl) hz9 ?_
        refine lv_topl (fun x3 ex3 => ?_)
        have hw := hw x3 ex3
        exact ((W.lret (v := x3) hx hb hr (fun t ht hW => ⟨⟨x3, (), rfl, hw, by rw [ht]; exact hP, va_K.moved hW.alike hK, hD⟩, hS.F ht⟩) hS.2.2 (qaa qnQ 8 rfl)))
      · have hw := hw.2 c2
        refine lv_lload_n hx hb (qaa qnQ 3 rfl) rfl (lv_at hl 0 rfl) ?_
        refine lv_goto (tgt := 41) hx hb (qaa qnQ 4 rfl) (by decide) ?_
        refine lv_lload hx hb (qaa qnQ 6 rfl) (lv_at hl 3 rfl) ?_
        obtain ⟨hz9, hw⟩ := hw
        refine lv_ldiv hx hb (qaa qnQ 7 rfl) hz9 ?_
        refine lv_topl (fun x4 ex4 => ?_)
        have hw := hw x4 ex4
        exact ((W.lret (v := x4) hx hb hr (fun t ht hW => ⟨⟨x4, (), rfl, hw, by rw [ht]; exact hP, va_K.moved hW.alike hK, hD⟩, hS.F ht⟩) hS.2.2 (qaa qnQ 8 rfl)))
    · have hw := hw.2 c1
      refine lv_lload hx hb (qaa qi9 8 rfl) (lv_at hl 3 rfl) ?_
      refine lv_lload hx hb (qaa qi9 9 rfl) (lv_at hl 4 rfl) ?_
      obtain ⟨hz9, hw⟩ := hw
      refine lv_lrem hx hb (qaa qi9 10 rfl) hz9 ?_
      refine lv_topl (fun x5 ex5 => ?_)
      have hw := hw x5 ex5
      refine lv_lstore (lv' := [(9, .long x5), (0, .long l0), (2, .long l2), (4, .int l4), (5, .long l5), (7, .long l7)]) hx hb (qaa qi9 11 rfl) hl (by decide) rfl (fun ls hl => ?_)
      refine lv_lload hx hb (qaa qi9 12 rfl) (lv_at hl 5 rfl) ?_
      refine lv_lstore (lv' := [(5, .long l7), (9, .long x5), (0, .long l0), (2, .long l2), (4, .int l4), (7, .long l7)]) hx hb (qaa qi9 13 rfl) hl (by decide) rfl (fun ls hl => ?_)
      refine lv_lload hx hb (qaa qi9 14 rfl) (lv_at hl 1 rfl) ?_
      refine lv_lstore (lv' := [(7, .long x5), (5, .long l7), (9, .long x5), (0, .long l0), (2, .long l2), (4, .int l4)]) hx hb (qaa qi9 15 rfl) hl (by decide) rfl (fun ls hl => ?_)
      refine lv_goto (tgt := 6) hx hb (qaa qnQ 0 rfl) (by decide) ?_
      exact ih _ _ _ l0 l2 l4 l7 x5 hP hD hS (lv_sub hl [3, 4, 5, 1, 0] rfl) hw
set_option maxHeartbeats 4000000 in
set_option maxRecDepth 100000 in
theorem qaTy (l : Launch) (dC : Nat → ClassId) (dI : Nat → Nat → Nat) (cyB cyI cyJ cyP : ClassId) (sz : Nat) (p0 : Int64) (p2 : Int64) (p4 : Int32) {Q : Int64 → Prop} (hw : qGA p0 p2 p4 Q) : Met l yX11_least wsX11_least ({ frames := 0, cells := 0, slots := 0, locals := 0 }) (va_Pc [.long p0, .long p2, .int p4] (cPc (dC, dI) (kT cyB cyI cyJ cyP) [] sz)) (va_Ql (fun (r : Int64) (_ : Unit) => Q r ) (cB (dC, dI) (kT cyB cyI cyJ cyP) (va_A [] sz) (fun u : Unit => ([] : va_W))) (va_A [] sz)) 0 0 (va_A [] sz) := by
  refine Met.ofW (cc := cX11_least) (maxL := 11) (ret := (some .long)) (by decide) rfl ?_
  intro p e s m args below meth c s₁ B hml hv
  obtain ⟨rfl, hsz, hP, hK, hD0, hNw⟩ := hv
  have hx := B.exec
  have hb := B.bytes
  have hr := B.returns
  have hts := atoms_spec (ws := wsX11_least) B.pre
  have hown : s.vm.findClass RX11 = some m.cls := findClass_of_methodNamed B.named
  have hlocks := B.notSynchronized
  subst hsz
  have hD := hD0.self (sz := s.heap.size)
  generalize hAe : va_A [] s.heap.size = A at hD ⊢
  have hA : ∀ q : Nat, s.heap.size ≤ q → A q := fun q h => by rw [← hAe]; exact Or.inr h
  have hS : va_S A s.heap s.heap [] := va_S.rf
  have hP : va_P (dC, dI) vwCl [] s.heap := hP
  have hl := lv_entry ([.long p0, .long p2, .int p4]) (n := 11) (nbq rfl)
  rw [lg_entry_eq]
  generalize (lg_sl ([.long p0, .long p2, .int p4]) ++ List.replicate (11 - (lg_sl ([.long p0, .long p2, .int p4])).length) Slot.unset).toArray = ls at hl ⊢
  have hl : lv_has ls 11 [(0, .long p0), (2, .long p2), (4, .int p4)] := hl
  have C0 : cfx p s m _ meth c cX11_least (some .long) wsX11_least RX11 11 A (dC, dI) (kT cyB cyI cyJ cyP) := ⟨hx, hb, hr, hts, hown, hlocks, hml, hA, hK, hNw⟩
  clear hAe
  obtain ⟨H, hH⟩ : ∃ H, H = s.heap := ⟨_, rfl⟩
  rw [← hH] at hP ⊢
  have hS : va_S A s.heap H [] := by rw [hH]; exact va_S.rf
  have hS := hS
  refine lv_lload_n hx hb (qaa qi9 0 rfl) rfl (lv_at hl 0 rfl) ?_
  refine lv_lstore (lv' := [(5, .long p0), (0, .long p0), (2, .long p2), (4, .int p4)]) hx hb (qaa qi9 1 rfl) hl (by decide) rfl (fun ls hl => ?_)
  refine lv_lload_n hx hb (qaa qi9 2 rfl) rfl (lv_at hl 2 rfl) ?_
  refine lv_lstore (lv' := [(7, .long p2), (5, .long p0), (0, .long p0), (2, .long p2), (4, .int p4)]) hx hb (qaa qi9 3 rfl) hl (by decide) rfl (fun ls hl => ?_)
  obtain ⟨n9, hw⟩ := hw
  exact qaIp dC dI cyB cyI cyJ cyP Q C0 n9 _ _ _ p0 p2 p4 p0 p2 hP hD hS (lv_sub hl [2, 3, 4, 1, 0] rfl) hw
theorem qAE : ∀ w ∈ u_ws RX11 TX11 55, w ∈ wsX11_few := uiM qEh qga (by decide +kernel)
theorem qaRq : (.fieldLink RX11 3 "MarchHaresModel" "thrown" "I" : Cond) ∈ wsX11_few := qEh 589 (by decide +kernel)
theorem qDT : (.fieldLink RX11 98 "MarchHaresModel" "seen" "[J" : Cond) ∈ wsX11_few := qEh 466 (by decide +kernel)
theorem qaEk : (.constantLong RX11 433 (16) : Cond) ∈ wsX11_few := qEh 3776 (by decide +kernel)
set_option maxHeartbeats 4000000 in
set_option maxRecDepth 100000 in
theorem qadQ {p : Program} {l : Launch} {e : Env} {s : State} {m : MethodId} {args : Array Value} {below : List Frame} {meth : Method} {c : Code} {A : Nat → Prop} (dC : Nat → ClassId) (dI : Nat → Nat → Nat) (cyB cyI cyJ cyP : ClassId) (a0 jaQ jjj : Nat) (jaD ja7 jby jbf jaM jaY jap jaK jal jam jax jao ja6 jaV ja8 jae jag jaf ja0 ja4 jaP jaw jaI jaZ jaH jaS jan jaU jaE jar jaL jah jaB jaa jaz jaG jab ja2 z0_s jaq jai jaO jaA jat jau jav jaj jas jak jad jay jac : Value) (Q : Int64 → Int32 → NI → (Nat → Int64) → Prop) (K64 : Int32 → NI → (Nat → Int64) → Int32 → Int32 → Int32 → Int32 → Int32 → Prop) (hK64 : ∀ (H : Heap) (locs : List Loc) (ls : Array Slot) (jbd : Int32) (ja9 : NI) (jkG : Nat → Int64) (l1 l2 l3 l4 l5 : Int32), va_P (dC, dI) vwCl (qdL a0 jbd jaQ jaD ja7 jby jbf jaM jaY jap jaK jal jam jax jao ja6 jaV ja8 jae jag jaf ja0 ja4 jaP jaw jaI jaZ jaH jaS jan jaU jaE jar jaL jah jaB jaa jaz jaG jab ja2 z0_s jaq jai jaO jaA jat jau jav jaj jas jjj jak jad jay jac jaQ cyI ja9 jjj cyJ jkG) H → va_D A (qdL a0 jbd jaQ jaD ja7 jby jbf jaM jaY jap jaK jal jam jax jao ja6 jaV ja8 jae jag jaf ja0 ja4 jaP jaw jaI jaZ jaH jaS jan jaU jaE jar jaL jah jaB jaa jaz jaG jab ja2 z0_s jaq jai jaO jaA jat jau jav jaj jas jjj jak jad jay jac jaQ cyI ja9 jjj cyJ jkG) → va_S A s.heap H locs → lv_has ls 10 [(0, .ref a0), (1, .int l1), (2, .int l2), (3, .int l3), (4, .int l4), (5, .int l5)] → K64 jbd ja9 jkG l1 l2 l3 l4 l5 → W p l e (headSpec wsX11_few ({ frames := 1, cells := 0, slots := 0, locals := 30 })).room s m args below meth c H locs 0 0 (MQ below (va_Ql (fun (r : Int64) (u : Int32 × NI × (Nat → Int64)) => Q r u.1 u.2.1 u.2.2) (cB (dC, dI) (kT cyB cyI cyJ cyP) A (fun u : Int32 × NI × (Nat → Int64) => ((qdL a0 u.1 jaQ jaD ja7 jby jbf jaM jaY jap jaK jal jam jax jao ja6 jaV ja8 jae jag jaf ja0 ja4 jaP jaw jaI jaZ jaH jaS jan jaU jaE jar jaL jah jaB jaa jaz jaG jab ja2 z0_s jaq jai jaO jaA jat jau jav jaj jas jjj jak jad jay jac jaQ cyI u.2.1 jjj cyJ u.2.2) : va_W))) A) args s 0 0 A) (F0 m 64 ls [])) (C0 : cfx p s m args meth c cX11_few (some .long) wsX11_few RX11 10 A (dC, dI) (kT cyB cyI cyJ cyP)) : ∀ (H : Heap) (locs : List Loc) (ls : Array Slot) (jbd : Int32) (ja9 : NI) (jkG : Nat → Int64) (l1 l2 l3 l4 l5 s1 : Int32) (s2 : Int64), va_P (dC, dI) vwCl (qdL a0 jbd jaQ jaD ja7 jby jbf jaM jaY jap jaK jal jam jax jao ja6 jaV ja8 jae jag jaf ja0 ja4 jaP jaw jaI jaZ jaH jaS jan jaU jaE jar jaL jah jaB jaa jaz jaG jab ja2 z0_s jaq jai jaO jaA jat jau jav jaj jas jjj jak jad jay jac jaQ cyI ja9 jjj cyJ jkG) H → va_D A (qdL a0 jbd jaQ jaD ja7 jby jbf jaM jaY jap jaK jal jam jax jao ja6 jaV ja8 jae jag jaf ja0 ja4 jaP jaw jaI jaZ jaH jaS jan jaU jaE jar jaL jah jaB jaa jaz jaG jab ja2 z0_s jaq jai jaO jaA jat jau jav jaj jas jjj jak jad jay jac jaQ cyI ja9 jjj cyJ jkG) → va_S A s.heap H locs → lv_has ls 10 [(0, .ref a0), (1, .int l1), (2, .int l2), (3, .int l3), (4, .int l4), (5, .int l5)] → qXZ Q K64 jbd ja9 jkG l1 l2 l3 l4 l5 s1 s2 → W p l e (headSpec wsX11_few ({ frames := 1, cells := 0, slots := 0, locals := 30 })).room s m args below meth c H locs 0 0 (MQ below (va_Ql (fun (r : Int64) (u : Int32 × NI × (Nat → Int64)) => Q r u.1 u.2.1 u.2.2) (cB (dC, dI) (kT cyB cyI cyJ cyP) A (fun u : Int32 × NI × (Nat → Int64) => ((qdL a0 u.1 jaQ jaD ja7 jby jbf jaM jaY jap jaK jal jam jax jao ja6 jaV ja8 jae jag jaf ja0 ja4 jaP jaw jaI jaZ jaH jaS jan jaU jaE jar jaL jah jaB jaa jaz jaG jab ja2 z0_s jaq jai jaO jaA jat jau jav jaj jas jjj jak jad jay jac jaQ cyI u.2.1 jjj cyJ u.2.2) : va_W))) A) args s 0 0 A) (F0 m 87 ls [.long s2, .int s1, .ref jjj]) := by
  obtain ⟨hx, hb, hr, hts, hown, hlocks, hml, hA, hK, hNw⟩ := id C0
  intro H locs ls jbd ja9 jkG l1 l2 l3 l4 l5 s1 s2 hP hD hS hl hw
  obtain ⟨hi9, hw⟩ := hw
  refine va_last hx hb hK hP hD hS 2 2 rfl rfl hi9 (qaa qlF 14 rfl) (fun H locs hP hD hS => ?_)
  obtain ⟨f16, ef16⟩ : ∃ y : Nat → Int64, y = vp_updL jkG s1.toNatClampNeg s2 := ⟨_, rfl⟩
  have hw := hw f16 ef16
  have hP : va_P (dC, dI) vwCl (qdL a0 jbd jaQ jaD ja7 jby jbf jaM jaY jap jaK jal jam jax jao ja6 jaV ja8 jae jag jaf ja0 ja4 jaP jaw jaI jaZ jaH jaS jan jaU jaE jar jaL jah jaB jaa jaz jaG jab ja2 z0_s jaq jai jaO jaA jat jau jav jaj jas jjj jak jad jay jac jaQ cyI ja9 jjj cyJ f16) H := by rw [ef16]; exact hP
  have hD : va_D A (qdL a0 jbd jaQ jaD ja7 jby jbf jaM jaY jap jaK jal jam jax jao ja6 jaV ja8 jae jag jaf ja0 ja4 jaP jaw jaI jaZ jaH jaS jan jaU jaE jar jaL jah jaB jaa jaz jaG jab ja2 z0_s jaq jai jaO jaA jat jau jav jaj jas jjj jak jad jay jac jaQ cyI ja9 jjj cyJ f16) := by rw [ef16]; exact hD
  obtain ⟨x17, ex17⟩ : ∃ y : Int32, y = l5 + 1 := ⟨_, rfl⟩
  have hw := hw x17 ex17
  refine lv_iinc (v := x17) (lv' := [(5, .int x17), (0, .ref a0), (1, .int l1), (2, .int l2), (3, .int l3), (4, .int l4)]) hx hb (qaa qlF 15 rfl) hl (k := 5) rfl (by rw [ex17]; rfl) (by decide) rfl (fun ls hl => ?_)
  refine lv_goto (tgt := 64) hx hb (qaa qlW 0 rfl) (by decide) ?_
  exact hK64 _ _ _ jbd ja9 f16 l1 l2 l3 l4 x17 hP hD hS (lv_sub hl [1, 2, 3, 4, 5, 0] rfl) hw
set_option maxHeartbeats 4000000 in
set_option maxRecDepth 100000 in
theorem q73 {p : Program} {l : Launch} {e : Env} {s : State} {m : MethodId} {args : Array Value} {below : List Frame} {meth : Method} {c : Code} {A : Nat → Prop} (dC : Nat → ClassId) (dI : Nat → Nat → Nat) (cyB cyI cyJ cyP : ClassId) (a0 jaQ jjj : Nat) (jaD ja7 jby jbf jaM jaY jap jaK jal jam jax jao ja6 jaV ja8 jae jag jaf ja0 ja4 jaP jaw jaI jaZ jaH jaS jan jaU jaE jar jaL jah jaB jaa jaz jaG jab ja2 z0_s jaq jai jaO jaA jat jau jav jaj jas jak jad jay jac : Value) (Q : Int64 → Int32 → NI → (Nat → Int64) → Prop) (K100 : Int32 → NI → (Nat → Int64) → Int32 → Int32 → Int32 → Int32 → Int64 → Int32 → Prop) (K110 : Int32 → NI → (Nat → Int64) → Int32 → Int32 → Int32 → Int32 → Int64 → Int32 → Int32 → Prop) (hK100 : ∀ (H : Heap) (locs : List Loc) (ls : Array Slot) (jbd : Int32) (ja9 : NI) (jkG : Nat → Int64) (l1 l2 l3 l4 : Int32) (l5 : Int64) (l7 : Int32), va_P (dC, dI) vwCl (qdL a0 jbd jaQ jaD ja7 jby jbf jaM jaY jap jaK jal jam jax jao ja6 jaV ja8 jae jag jaf ja0 ja4 jaP jaw jaI jaZ jaH jaS jan jaU jaE jar jaL jah jaB jaa jaz jaG jab ja2 z0_s jaq jai jaO jaA jat jau jav jaj jas jjj jak jad jay jac jaQ cyI ja9 jjj cyJ jkG) H → va_D A (qdL a0 jbd jaQ jaD ja7 jby jbf jaM jaY jap jaK jal jam jax jao ja6 jaV ja8 jae jag jaf ja0 ja4 jaP jaw jaI jaZ jaH jaS jan jaU jaE jar jaL jah jaB jaa jaz jaG jab ja2 z0_s jaq jai jaO jaA jat jau jav jaj jas jjj jak jad jay jac jaQ cyI ja9 jjj cyJ jkG) → va_S A s.heap H locs → lv_has ls 10 [(0, .ref a0), (1, .int l1), (2, .int l2), (3, .int l3), (4, .int l4), (5, .long l5), (7, .int l7)] → K100 jbd ja9 jkG l1 l2 l3 l4 l5 l7 → W p l e (headSpec wsX11_few ({ frames := 1, cells := 0, slots := 0, locals := 30 })).room s m args below meth c H locs 0 0 (MQ below (va_Ql (fun (r : Int64) (u : Int32 × NI × (Nat → Int64)) => Q r u.1 u.2.1 u.2.2) (cB (dC, dI) (kT cyB cyI cyJ cyP) A (fun u : Int32 × NI × (Nat → Int64) => ((qdL a0 u.1 jaQ jaD ja7 jby jbf jaM jaY jap jaK jal jam jax jao ja6 jaV ja8 jae jag jaf ja0 ja4 jaP jaw jaI jaZ jaH jaS jan jaU jaE jar jaL jah jaB jaa jaz jaG jab ja2 z0_s jaq jai jaO jaA jat jau jav jaj jas jjj jak jad jay jac jaQ cyI u.2.1 jjj cyJ u.2.2) : va_W))) A) args s 0 0 A) (F0 m 100 ls [])) (hK110 : ∀ (H : Heap) (locs : List Loc) (ls : Array Slot) (jbd : Int32) (ja9 : NI) (jkG : Nat → Int64) (l1 l2 l3 l4 : Int32) (l5 : Int64) (l7 l8 : Int32), va_P (dC, dI) vwCl (qdL a0 jbd jaQ jaD ja7 jby jbf jaM jaY jap jaK jal jam jax jao ja6 jaV ja8 jae jag jaf ja0 ja4 jaP jaw jaI jaZ jaH jaS jan jaU jaE jar jaL jah jaB jaa jaz jaG jab ja2 z0_s jaq jai jaO jaA jat jau jav jaj jas jjj jak jad jay jac jaQ cyI ja9 jjj cyJ jkG) H → va_D A (qdL a0 jbd jaQ jaD ja7 jby jbf jaM jaY jap jaK jal jam jax jao ja6 jaV ja8 jae jag jaf ja0 ja4 jaP jaw jaI jaZ jaH jaS jan jaU jaE jar jaL jah jaB jaa jaz jaG jab ja2 z0_s jaq jai jaO jaA jat jau jav jaj jas jjj jak jad jay jac jaQ cyI ja9 jjj cyJ jkG) → va_S A s.heap H locs → lv_has ls 10 [(0, .ref a0), (1, .int l1), (2, .int l2), (3, .int l3), (4, .int l4), (5, .long l5), (7, .int l7), (8, .int l8)] → K110 jbd ja9 jkG l1 l2 l3 l4 l5 l7 l8 → W p l e (headSpec wsX11_few ({ frames := 1, cells := 0, slots := 0, locals := 30 })).room s m args below meth c H locs 0 0 (MQ below (va_Ql (fun (r : Int64) (u : Int32 × NI × (Nat → Int64)) => Q r u.1 u.2.1 u.2.2) (cB (dC, dI) (kT cyB cyI cyJ cyP) A (fun u : Int32 × NI × (Nat → Int64) => ((qdL a0 u.1 jaQ jaD ja7 jby jbf jaM jaY jap jaK jal jam jax jao ja6 jaV ja8 jae jag jaf ja0 ja4 jaP jaw jaI jaZ jaH jaS jan jaU jaE jar jaL jah jaB jaa jaz jaG jab ja2 z0_s jaq jai jaO jaA jat jau jav jaj jas jjj jak jad jay jac jaQ cyI u.2.1 jjj cyJ u.2.2) : va_W))) A) args s 0 0 A) (F0 m 110 ls [])) (C0 : cfx p s m args meth c cX11_few (some .long) wsX11_few RX11 10 A (dC, dI) (kT cyB cyI cyJ cyP)) : ∀ (H : Heap) (locs : List Loc) (ls : Array Slot) (jbd : Int32) (ja9 : NI) (jkG : Nat → Int64) (l1 l2 l3 l4 : Int32) (l5 : Int64) (l7 l8 s1 : Int32) (s2 : Int64) (s3 : Int64), va_P (dC, dI) vwCl (qdL a0 jbd jaQ jaD ja7 jby jbf jaM jaY jap jaK jal jam jax jao ja6 jaV ja8 jae jag jaf ja0 ja4 jaP jaw jaI jaZ jaH jaS jan jaU jaE jar jaL jah jaB jaa jaz jaG jab ja2 z0_s jaq jai jaO jaA jat jau jav jaj jas jjj jak jad jay jac jaQ cyI ja9 jjj cyJ jkG) H → va_D A (qdL a0 jbd jaQ jaD ja7 jby jbf jaM jaY jap jaK jal jam jax jao ja6 jaV ja8 jae jag jaf ja0 ja4 jaP jaw jaI jaZ jaH jaS jan jaU jaE jar jaL jah jaB jaa jaz jaG jab ja2 z0_s jaq jai jaO jaA jat jau jav jaj jas jjj jak jad jay jac jaQ cyI ja9 jjj cyJ jkG) → va_S A s.heap H locs → lv_has ls 10 [(0, .ref a0), (1, .int l1), (2, .int l2), (3, .int l3), (4, .int l4), (5, .long l5), (7, .int l7), (8, .int l8)] → qTq Q K100 K110 jbd ja9 jkG l1 l2 l3 l4 l5 l7 l8 s1 s2 s3 → W p l e (headSpec wsX11_few ({ frames := 1, cells := 0, slots := 0, locals := 30 })).room s m args below meth c H locs 0 0 (MQ below (va_Ql (fun (r : Int64) (u : Int32 × NI × (Nat → Int64)) => Q r u.1 u.2.1 u.2.2) (cB (dC, dI) (kT cyB cyI cyJ cyP) A (fun u : Int32 × NI × (Nat → Int64) => ((qdL a0 u.1 jaQ jaD ja7 jby jbf jaM jaY jap jaK jal jam jax jao ja6 jaV ja8 jae jag jaf ja0 ja4 jaP jaw jaI jaZ jaH jaS jan jaU jaE jar jaL jah jaB jaa jaz jaG jab ja2 z0_s jaq jai jaO jaA jat jau jav jaj jas jjj jak jad jay jac jaQ cyI u.2.1 jjj cyJ u.2.2) : va_W))) A) args s 0 0 A) (F0 m 155 ls [.long s3, .long s2, .int s1, .ref jjj]) := by
  obtain ⟨hx, hb, hr, hts, hown, hlocks, hml, hA, hK, hNw⟩ := id C0
  intro H locs ls jbd ja9 jkG l1 l2 l3 l4 l5 l7 l8 s1 s2 s3 hP hD hS hl hw
  refine lv_ladd hx hb (qaa qjb 5 rfl) ?_
  refine lv_topl (fun x30 ex30 => ?_)
  have hw := hw x30 ex30
  obtain ⟨hi9, hw⟩ := hw
  refine va_last hx hb hK hP hD hS 2 2 rfl rfl hi9 (qaa qjb 6 rfl) (fun H locs hP hD hS => ?_)
  obtain ⟨f31, ef31⟩ : ∃ y : Nat → Int64, y = vp_updL jkG s1.toNatClampNeg x30 := ⟨_, rfl⟩
  have hw := hw f31 ef31
  have hP : va_P (dC, dI) vwCl (qdL a0 jbd jaQ jaD ja7 jby jbf jaM jaY jap jaK jal jam jax jao ja6 jaV ja8 jae jag jaf ja0 ja4 jaP jaw jaI jaZ jaH jaS jan jaU jaE jar jaL jah jaB jaa jaz jaG jab ja2 z0_s jaq jai jaO jaA jat jau jav jaj jas jjj jak jad jay jac jaQ cyI ja9 jjj cyJ f31) H := by rw [ef31]; exact hP
  have hD : va_D A (qdL a0 jbd jaQ jaD ja7 jby jbf jaM jaY jap jaK jal jam jax jao ja6 jaV ja8 jae jag jaf ja0 ja4 jaP jaw jaI jaZ jaH jaS jan jaU jaE jar jaL jah jaB jaa jaz jaG jab ja2 z0_s jaq jai jaO jaA jat jau jav jaj jas jjj jak jad jay jac jaQ cyI ja9 jjj cyJ f31) := by rw [ef31]; exact hD
  obtain ⟨x32, ex32⟩ : ∃ y : Int32, y = l8 + (-1) := ⟨_, rfl⟩
  have hw := hw x32 ex32
  refine lv_iinc (v := x32) (lv' := [(8, .int x32), (0, .ref a0), (1, .int l1), (2, .int l2), (3, .int l3), (4, .int l4), (5, .long l5), (7, .int l7)]) hx hb (qaa qjb 7 rfl) hl (k := 7) rfl (by rw [ex32]; rfl) (by decide) rfl (fun ls hl => ?_)
  refine lv_goto (tgt := 110) hx hb (qaa qjb 8 rfl) (by decide) ?_
  exact hK110 _ _ _ jbd ja9 f31 l1 l2 l3 l4 l5 l7 x32 hP hD hS (lv_sub hl [1, 2, 3, 4, 5, 6, 7, 0] rfl) hw
set_option maxHeartbeats 4000000 in
set_option maxRecDepth 100000 in
theorem qaEp {p : Program} {l : Launch} {e : Env} {s : State} {m : MethodId} {args : Array Value} {below : List Frame} {meth : Method} {c : Code} {A : Nat → Prop} (dC : Nat → ClassId) (dI : Nat → Nat → Nat) (cyB cyI cyJ cyP : ClassId) (a0 jaQ jjj : Nat) (jaD ja7 jby jbf jaM jaY jap jaK jal jam jax jao ja6 jaV ja8 jae jag jaf ja0 ja4 jaP jaw jaI jaZ jaH jaS jan jaU jaE jar jaL jah jaB jaa jaz jaG jab ja2 z0_s jaq jai jaO jaA jat jau jav jaj jas jak jad jay jac : Value) (Q : Int64 → Int32 → NI → (Nat → Int64) → Prop) (K100 : Int32 → NI → (Nat → Int64) → Int32 → Int32 → Int32 → Int32 → Int64 → Int32 → Prop) (hK100 : ∀ (H : Heap) (locs : List Loc) (ls : Array Slot) (jbd : Int32) (ja9 : NI) (jkG : Nat → Int64) (l1 l2 l3 l4 : Int32) (l5 : Int64) (l7 : Int32), va_P (dC, dI) vwCl (qdL a0 jbd jaQ jaD ja7 jby jbf jaM jaY jap jaK jal jam jax jao ja6 jaV ja8 jae jag jaf ja0 ja4 jaP jaw jaI jaZ jaH jaS jan jaU jaE jar jaL jah jaB jaa jaz jaG jab ja2 z0_s jaq jai jaO jaA jat jau jav jaj jas jjj jak jad jay jac jaQ cyI ja9 jjj cyJ jkG) H → va_D A (qdL a0 jbd jaQ jaD ja7 jby jbf jaM jaY jap jaK jal jam jax jao ja6 jaV ja8 jae jag jaf ja0 ja4 jaP jaw jaI jaZ jaH jaS jan jaU jaE jar jaL jah jaB jaa jaz jaG jab ja2 z0_s jaq jai jaO jaA jat jau jav jaj jas jjj jak jad jay jac jaQ cyI ja9 jjj cyJ jkG) → va_S A s.heap H locs → lv_has ls 10 [(0, .ref a0), (1, .int l1), (2, .int l2), (3, .int l3), (4, .int l4), (5, .long l5), (7, .int l7)] → K100 jbd ja9 jkG l1 l2 l3 l4 l5 l7 → W p l e (headSpec wsX11_few ({ frames := 1, cells := 0, slots := 0, locals := 30 })).room s m args below meth c H locs 0 0 (MQ below (va_Ql (fun (r : Int64) (u : Int32 × NI × (Nat → Int64)) => Q r u.1 u.2.1 u.2.2) (cB (dC, dI) (kT cyB cyI cyJ cyP) A (fun u : Int32 × NI × (Nat → Int64) => ((qdL a0 u.1 jaQ jaD ja7 jby jbf jaM jaY jap jaK jal jam jax jao ja6 jaV ja8 jae jag jaf ja0 ja4 jaP jaw jaI jaZ jaH jaS jan jaU jaE jar jaL jah jaB jaa jaz jaG jab ja2 z0_s jaq jai jaO jaA jat jau jav jaj jas jjj jak jad jay jac jaQ cyI u.2.1 jjj cyJ u.2.2) : va_W))) A) args s 0 0 A) (F0 m 100 ls [])) (C0 : cfx p s m args meth c cX11_few (some .long) wsX11_few RX11 10 A (dC, dI) (kT cyB cyI cyJ cyP)) : ∀ (n : Nat) (H : Heap) (locs : List Loc) (ls : Array Slot) (jbd : Int32) (ja9 : NI) (jkG : Nat → Int64) (l1 l2 l3 l4 : Int32) (l5 : Int64) (l7 l8 : Int32), va_P (dC, dI) vwCl (qdL a0 jbd jaQ jaD ja7 jby jbf jaM jaY jap jaK jal jam jax jao ja6 jaV ja8 jae jag jaf ja0 ja4 jaP jaw jaI jaZ jaH jaS jan jaU jaE jar jaL jah jaB jaa jaz jaG jab ja2 z0_s jaq jai jaO jaA jat jau jav jaj jas jjj jak jad jay jac jaQ cyI ja9 jjj cyJ jkG) H → va_D A (qdL a0 jbd jaQ jaD ja7 jby jbf jaM jaY jap jaK jal jam jax jao ja6 jaV ja8 jae jag jaf ja0 ja4 jaP jaw jaI jaZ jaH jaS jan jaU jaE jar jaL jah jaB jaa jaz jaG jab ja2 z0_s jaq jai jaO jaA jat jau jav jaj jas jjj jak jad jay jac jaQ cyI ja9 jjj cyJ jkG) → va_S A s.heap H locs → lv_has ls 10 [(0, .ref a0), (1, .int l1), (2, .int l2), (3, .int l3), (4, .int l4), (5, .long l5), (7, .int l7), (8, .int l8)] → qvf Q K100 n jbd ja9 jkG l1 l2 l3 l4 l5 l7 l8 → W p l e (headSpec wsX11_few ({ frames := 1, cells := 0, slots := 0, locals := 30 })).room s m args below meth c H locs 0 0 (MQ below (va_Ql (fun (r : Int64) (u : Int32 × NI × (Nat → Int64)) => Q r u.1 u.2.1 u.2.2) (cB (dC, dI) (kT cyB cyI cyJ cyP) A (fun u : Int32 × NI × (Nat → Int64) => ((qdL a0 u.1 jaQ jaD ja7 jby jbf jaM jaY jap jaK jal jam jax jao ja6 jaV ja8 jae jag jaf ja0 ja4 jaP jaw jaI jaZ jaH jaS jan jaU jaE jar jaL jah jaB jaa jaz jaG jab ja2 z0_s jaq jai jaO jaA jat jau jav jaj jas jjj jak jad jay jac jaQ cyI u.2.1 jjj cyJ u.2.2) : va_W))) A) args s 0 0 A) (F0 m 110 ls []) := by
  obtain ⟨hx, hb, hr, hts, hown, hlocks, hml, hA, hK, hNw⟩ := id C0
  intro n
  induction n with
  | zero => intro H locs ls jbd ja9 jkG l1 l2 l3 l4 l5 l7 l8 hP hD hS hl hw; exact False.elim hw
  | succ n ih =>
    intro H locs ls jbd ja9 jkG l1 l2 l3 l4 l5 l7 l8 hP hD hS hl hw
    refine lv_iload hx hb (qaa qlW 10 rfl) (lv_at hl 7 rfl) ?_
    refine lv_if_lt (tgt := 163) hx hb (qaa qlW 11 rfl) (by decide) (fun c23 => ?_) (fun c23 => ?_)
    · have hw := hw.1 c23
      refine lv_lload hx hb (qaa qjb 9 rfl) (lv_at hl 5 rfl) ?_
      refine lv_ldc2 (v := 16) hx hb hown (hts _ qaEk) (qaa qjb 10 rfl) ?_
      refine lv_lmul hx hb (qaa qjb 11 rfl) ?_
      refine lv_topl (fun x24 ex24 => ?_)
      have hw := hw x24 ex24
      refine lv_lstore (lv' := [(5, .long x24), (0, .ref a0), (1, .int l1), (2, .int l2), (3, .int l3), (4, .int l4), (7, .int l7), (8, .int l8)]) hx hb (qaa qjb 12 rfl) hl (by decide) rfl (fun ls hl => ?_)
      obtain ⟨x25, ex25⟩ : ∃ y : Int32, y = l7 + 1 := ⟨_, rfl⟩
      have hw := hw x25 ex25
      refine lv_iinc (v := x25) (lv' := [(7, .int x25), (5, .long x24), (0, .ref a0), (1, .int l1), (2, .int l2), (3, .int l3), (4, .int l4), (8, .int l8)]) hx hb (qaa qjb 13 rfl) hl (k := 6) rfl (by rw [ex25]; rfl) (by decide) rfl (fun ls hl => ?_)
      refine lv_goto (tgt := 100) hx hb (qaa qjb 14 rfl) (by decide) ?_
      exact hK100 _ _ _ jbd ja9 jkG l1 l2 l3 l4 x24 x25 hP hD hS (lv_sub hl [2, 3, 4, 5, 6, 1, 0] rfl) hw
    · have hw := hw.2 c23
      refine lv_aload_n hx hb (qaa qlW 12 rfl) rfl (lv_at hl 0 rfl) ?_
      refine va_get (D := (dC, dI)) (ci := 11) (v := .ref jjj) (C := RX11) (T := TX11) (N := 55) hx hb hts qAE hown hK hP 0 rfl rfl 50 (by decide) (hts _ qDT) (fun _ h9 => h9) rfl (qaa qlW 13 rfl) ?_
      refine lv_iload hx hb (qaa qlW 14 rfl) (lv_at hl 7 rfl) ?_
      refine lv_aload_n hx hb (qaa qlW 15 rfl) rfl (lv_at hl 0 rfl) ?_
      refine va_get (D := (dC, dI)) (ci := 11) (v := .ref jjj) (C := RX11) (T := TX11) (N := 55) hx hb hts qAE hown hK hP 0 rfl rfl 50 (by decide) (hts _ qDT) (fun _ h9 => h9) rfl (qaa qiO 0 rfl) ?_
      refine lv_iload hx hb (qaa qiO 1 rfl) (lv_at hl 7 rfl) ?_
      obtain ⟨hi9, hw⟩ := hw
      refine va_lald hx hb hK hP 2 2 rfl rfl hi9 (qaa qiO 2 rfl) ?_
      refine lv_topl (fun x26 ex26 => ?_)
      have hw := hw x26 ex26
      refine lv_bipush (v := 16) hx hb (qaa qiO 3 rfl) (by decide) ?_
      refine lv_iload_n hx hb (qaa qiO 4 rfl) rfl (lv_at hl 3 rfl) ?_
      refine lv_isub hx hb (qaa qiO 5 rfl) ?_
      refine lv_i2l (v := (16 - l3).toInt64) hx hb (qaa qiO 6 rfl) rfl ?_
      refine lv_lmul hx hb (qaa qiO 7 rfl) ?_
      refine lv_iload hx hb (qaa qiO 8 rfl) (lv_at hl 7 rfl) ?_
      refine lv_if_le (tgt := 154) hx hb (qaa qiO 9 rfl) (by decide) (fun c27 => ?_) (fun c27 => ?_)
      · have hw := hw.1 c27
        refine lv_lconst (v := 0) hx hb (qaa qjb 4 rfl) (by decide) ?_
        exact q73 dC dI cyB cyI cyJ cyP a0 jaQ jjj jaD ja7 jby jbf jaM jaY jap jaK jal jam jax jao ja6 jaV ja8 jae jag jaf ja0 ja4 jaP jaw jaI jaZ jaH jaS jan jaU jaE jar jaL jah jaB jaa jaz jaG jab ja2 z0_s jaq jai jaO jaA jat jau jav jaj jas jak jad jay jac Q K100 (qvf Q K100 n) hK100 ih C0 _ _ _ jbd ja9 jkG l1 l2 l3 l4 l5 l7 l8 l8 (x26 * ((16 - l3).toInt64)) 0 hP hD hS (lv_sub hl [0, 1, 2, 3, 4, 5, 6, 7] rfl) hw
      · have hw := hw.2 c27
        refine lv_aload_n hx hb (qaa qiO 10 rfl) rfl (lv_at hl 0 rfl) ?_
        refine va_get (D := (dC, dI)) (ci := 11) (v := .ref jjj) (C := RX11) (T := TX11) (N := 55) hx hb hts qAE hown hK hP 0 rfl rfl 50 (by decide) (hts _ qDT) (fun _ h9 => h9) rfl (qaa qiO 11 rfl) ?_
        refine lv_iload hx hb (qaa qiO 12 rfl) (lv_at hl 7 rfl) ?_
        refine lv_iconst (v := 1) hx hb (qaa qiO 13 rfl) (by decide) ?_
        refine lv_isub hx hb (qaa qiO 14 rfl) ?_
        refine lv_topi (fun x28 ex28 => ?_)
        have hw := hw x28 ex28
        obtain ⟨hi9, hw⟩ := hw
        refine va_lald hx hb hK hP 2 2 rfl rfl hi9 (qaa qiO 15 rfl) ?_
        refine lv_topl (fun x29 ex29 => ?_)
        have hw := hw x29 ex29
        refine lv_iload_n hx hb (qaa qjb 0 rfl) rfl (lv_at hl 3 rfl) ?_
        refine lv_i2l (v := l3.toInt64) hx hb (qaa qjb 1 rfl) rfl ?_
        refine lv_lmul hx hb (qaa qjb 2 rfl) ?_
        refine lv_goto (tgt := 155) hx hb (qaa qjb 3 rfl) (by decide) ?_
        exact q73 dC dI cyB cyI cyJ cyP a0 jaQ jjj jaD ja7 jby jbf jaM jaY jap jaK jal jam jax jao ja6 jaV ja8 jae jag jaf ja0 ja4 jaP jaw jaI jaZ jaH jaS jan jaU jaE jar jaL jah jaB jaa jaz jaG jab ja2 z0_s jaq jai jaO jaA jat jau jav jaj jas jak jad jay jac Q K100 (qvf Q K100 n) hK100 ih C0 _ _ _ jbd ja9 jkG l1 l2 l3 l4 l5 l7 l8 l8 (x26 * ((16 - l3).toInt64)) (x29 * l3.toInt64) hP hD hS (lv_sub hl [0, 1, 2, 3, 4, 5, 6, 7] rfl) hw
set_option maxHeartbeats 4000000 in
set_option maxRecDepth 100000 in
theorem qaFB {p : Program} {l : Launch} {e : Env} {s : State} {m : MethodId} {args : Array Value} {below : List Frame} {meth : Method} {c : Code} {A : Nat → Prop} (dC : Nat → ClassId) (dI : Nat → Nat → Nat) (cyB cyI cyJ cyP : ClassId) (a0 jaQ jjj : Nat) (jaD ja7 jby jbf jaM jaY jap jaK jal jam jax jao ja6 jaV ja8 jae jag jaf ja0 ja4 jaP jaw jaI jaZ jaH jaS jan jaU jaE jar jaL jah jaB jaa jaz jaG jab ja2 z0_s jaq jai jaO jaA jat jau jav jaj jas jak jad jay jac : Value) (Q : Int64 → Int32 → NI → (Nat → Int64) → Prop) (C0 : cfx p s m args meth c cX11_few (some .long) wsX11_few RX11 10 A (dC, dI) (kT cyB cyI cyJ cyP)) : ∀ (n : Nat) (H : Heap) (locs : List Loc) (ls : Array Slot) (jbd : Int32) (ja9 : NI) (jkG : Nat → Int64) (l2 l4 : Int32) (l5 : Int64) (l7 : Int64) (l9 : Int32), va_P (dC, dI) vwCl (qdL a0 jbd jaQ jaD ja7 jby jbf jaM jaY jap jaK jal jam jax jao ja6 jaV ja8 jae jag jaf ja0 ja4 jaP jaw jaI jaZ jaH jaS jan jaU jaE jar jaL jah jaB jaa jaz jaG jab ja2 z0_s jaq jai jaO jaA jat jau jav jaj jas jjj jak jad jay jac jaQ cyI ja9 jjj cyJ jkG) H → va_D A (qdL a0 jbd jaQ jaD ja7 jby jbf jaM jaY jap jaK jal jam jax jao ja6 jaV ja8 jae jag jaf ja0 ja4 jaP jaw jaI jaZ jaH jaS jan jaU jaE jar jaL jah jaB jaa jaz jaG jab ja2 z0_s jaq jai jaO jaA jat jau jav jaj jas jjj jak jad jay jac jaQ cyI ja9 jjj cyJ jkG) → va_S A s.heap H locs → lv_has ls 10 [(0, .ref a0), (2, .int l2), (4, .int l4), (5, .long l5), (7, .long l7), (9, .int l9)] → qK2 Q n jbd ja9 jkG l2 l4 l5 l7 l9 → W p l e (headSpec wsX11_few ({ frames := 1, cells := 0, slots := 0, locals := 30 })).room s m args below meth c H locs 0 0 (MQ below (va_Ql (fun (r : Int64) (u : Int32 × NI × (Nat → Int64)) => Q r u.1 u.2.1 u.2.2) (cB (dC, dI) (kT cyB cyI cyJ cyP) A (fun u : Int32 × NI × (Nat → Int64) => ((qdL a0 u.1 jaQ jaD ja7 jby jbf jaM jaY jap jaK jal jam jax jao ja6 jaV ja8 jae jag jaf ja0 ja4 jaP jaw jaI jaZ jaH jaS jan jaU jaE jar jaL jah jaB jaa jaz jaG jab ja2 z0_s jaq jai jaO jaA jat jau jav jaj jas jjj jak jad jay jac jaQ cyI u.2.1 jjj cyJ u.2.2) : va_W))) A) args s 0 0 A) (F0 m 183 ls []) := by
  obtain ⟨hx, hb, hr, hts, hown, hlocks, hml, hA, hK, hNw⟩ := id C0
  intro n
  induction n with
  | zero => intro H locs ls jbd ja9 jkG l2 l4 l5 l7 l9 hP hD hS hl hw; exact False.elim hw
  | succ n ih =>
    intro H locs ls jbd ja9 jkG l2 l4 l5 l7 l9 hP hD hS hl hw
    refine lv_iload hx hb (qaa qjn 3 rfl) (lv_at hl 5 rfl) ?_
    refine lv_iload_n hx hb (qaa qjn 4 rfl) rfl (lv_at hl 1 rfl) ?_
    refine lv_icmp_gt (tgt := 207) hx hb (qaa qjn 5 rfl) (by decide) (fun c18 => ?_) (fun c18 => ?_)
    · have hw := hw.1 c18
      refine lv_lload hx hb (qaa qjn 15 rfl) (lv_at hl 4 rfl) ?_
      refine lv_lload hx hb (qaa qKK 0 rfl) (lv_at hl 3 rfl) ?_
      refine lv_iload hx hb (qaa qKK 1 rfl) (lv_at hl 2 rfl) ?_
      obtain ⟨hCc, hPc, hDc, hFc⟩ := qac (ws' := []) hP hD hS hA [] (by decide +kernel) rfl
      refine va_calll (va_runS (As := [.long l7, .long l5, .int l4]) (rest := []) ⟨hx, hb, hml, hown, hts⟩ (qaTy l dC dI cyB cyI cyJ cyP H.size l7 l5 l4 hw) (va_cwS 3 hts gX11_few_X11_least rfl rfl rfl (by decide +kernel) ⟨nbq rfl, nbq rfl⟩) ⟨qab, qae hPc hK hDc hNw⟩ rfl rfl hl.1 rfl (lv_room (nbq rfl)) (qaa qKK 2 rfl) ⟨nbq rfl, nbq rfl⟩) hS (fun q _ h => hFc q h) hFc (fun r19 u t H1 locs ht hvm hw hB hz1 hk1 hS => ?_)
      obtain ⟨hP1, hK1, hD1⟩ := hB
      rw [ht] at hP1
      obtain ⟨hP, hD⟩ := qah (wr := (qdL a0 jbd jaQ jaD ja7 jby jbf jaM jaY jap jaK jal jam jax jao ja6 jaV ja8 jae jag jaf ja0 ja4 jaP jaw jaI jaZ jaH jaS jan jaU jaE jar jaL jah jaB jaa jaz jaG jab ja2 z0_s jaq jai jaO jaA jat jau jav jaj jas jjj jak jad jay jac jaQ cyI ja9 jjj cyJ jkG)) (w1 := []) (wn := (qdL a0 jbd jaQ jaD ja7 jby jbf jaM jaY jap jaK jal jam jax jao ja6 jaV ja8 jae jag jaf ja0 ja4 jaP jaw jaI jaZ jaH jaS jan jaU jaE jar jaL jah jaB jaa jaz jaG jab ja2 z0_s jaq jai jaO jaA jat jau jav jaj jas jjj jak jad jay jac jaQ cyI ja9 jjj cyJ jkG)) hP hD [] [0, 1, 2] hCc rfl (by decide +kernel) (by decide +kernel) rfl hk1 hFc hP1 hD1
      generalize H1 = H at hP hS ⊢
      exact ((W.lret (v := r19) hx hb hr (fun t ht hW => ⟨⟨r19, (jbd, ja9, jkG), rfl, hw, by rw [ht]; exact hP, va_K.moved hW.alike hK, hD⟩, hS.F ht⟩) hS.2.2 (qaa qKK 3 rfl)))
    · have hw := hw.2 c18
      refine lv_lload hx hb (qaa qjn 6 rfl) (lv_at hl 4 rfl) ?_
      refine lv_aload_n hx hb (qaa qjn 7 rfl) rfl (lv_at hl 0 rfl) ?_
      refine va_get (D := (dC, dI)) (ci := 11) (v := .ref jjj) (C := RX11) (T := TX11) (N := 55) hx hb hts qAE hown hK hP 0 rfl rfl 50 (by decide) (hts _ qDT) (fun _ h9 => h9) rfl (qaa qjn 8 rfl) ?_
      refine lv_iload hx hb (qaa qjn 9 rfl) (lv_at hl 5 rfl) ?_
      obtain ⟨hi9, hw⟩ := hw
      refine va_lald hx hb hK hP 2 2 rfl rfl hi9 (qaa qjn 10 rfl) ?_
      refine lv_topl (fun x20 ex20 => ?_)
      have hw := hw x20 ex20
      refine lv_ladd hx hb (qaa qjn 11 rfl) ?_
      refine lv_topl (fun x21 ex21 => ?_)
      have hw := hw x21 ex21
      refine lv_lstore (lv' := [(7, .long x21), (0, .ref a0), (2, .int l2), (4, .int l4), (5, .long l5), (9, .int l9)]) hx hb (qaa qjn 12 rfl) hl (by decide) rfl (fun ls hl => ?_)
      obtain ⟨x22, ex22⟩ : ∃ y : Int32, y = l9 + 1 := ⟨_, rfl⟩
      have hw := hw x22 ex22
      refine lv_iinc (v := x22) (lv' := [(9, .int x22), (7, .long x21), (0, .ref a0), (2, .int l2), (4, .int l4), (5, .long l5)]) hx hb (qaa qjn 13 rfl) hl (k := 5) rfl (by rw [ex22]; rfl) (by decide) rfl (fun ls hl => ?_)
      refine lv_goto (tgt := 183) hx hb (qaa qjn 14 rfl) (by decide) ?_
      exact ih _ _ _ jbd ja9 jkG l2 l4 l5 x21 x22 hP hD hS (lv_sub hl [2, 3, 4, 5, 1, 0] rfl) hw
set_option maxHeartbeats 4000000 in
set_option maxRecDepth 100000 in
theorem qaFx {p : Program} {l : Launch} {e : Env} {s : State} {m : MethodId} {args : Array Value} {below : List Frame} {meth : Method} {c : Code} {A : Nat → Prop} (dC : Nat → ClassId) (dI : Nat → Nat → Nat) (cyB cyI cyJ cyP : ClassId) (a0 jaQ jjj : Nat) (jaD ja7 jby jbf jaM jaY jap jaK jal jam jax jao ja6 jaV ja8 jae jag jaf ja0 ja4 jaP jaw jaI jaZ jaH jaS jan jaU jaE jar jaL jah jaB jaa jaz jaG jab ja2 z0_s jaq jai jaO jaA jat jau jav jaj jas jak jad jay jac : Value) (Q : Int64 → Int32 → NI → (Nat → Int64) → Prop) (C0 : cfx p s m args meth c cX11_few (some .long) wsX11_few RX11 10 A (dC, dI) (kT cyB cyI cyJ cyP)) : ∀ (n : Nat) (H : Heap) (locs : List Loc) (ls : Array Slot) (jbd : Int32) (ja9 : NI) (jkG : Nat → Int64) (l1 l2 l3 l4 : Int32) (l5 : Int64) (l7 : Int32), va_P (dC, dI) vwCl (qdL a0 jbd jaQ jaD ja7 jby jbf jaM jaY jap jaK jal jam jax jao ja6 jaV ja8 jae jag jaf ja0 ja4 jaP jaw jaI jaZ jaH jaS jan jaU jaE jar jaL jah jaB jaa jaz jaG jab ja2 z0_s jaq jai jaO jaA jat jau jav jaj jas jjj jak jad jay jac jaQ cyI ja9 jjj cyJ jkG) H → va_D A (qdL a0 jbd jaQ jaD ja7 jby jbf jaM jaY jap jaK jal jam jax jao ja6 jaV ja8 jae jag jaf ja0 ja4 jaP jaw jaI jaZ jaH jaS jan jaU jaE jar jaL jah jaB jaa jaz jaG jab ja2 z0_s jaq jai jaO jaA jat jau jav jaj jas jjj jak jad jay jac jaQ cyI ja9 jjj cyJ jkG) → va_S A s.heap H locs → lv_has ls 10 [(0, .ref a0), (1, .int l1), (2, .int l2), (3, .int l3), (4, .int l4), (5, .long l5), (7, .int l7)] → qDV Q n jbd ja9 jkG l1 l2 l3 l4 l5 l7 → W p l e (headSpec wsX11_few ({ frames := 1, cells := 0, slots := 0, locals := 30 })).room s m args below meth c H locs 0 0 (MQ below (va_Ql (fun (r : Int64) (u : Int32 × NI × (Nat → Int64)) => Q r u.1 u.2.1 u.2.2) (cB (dC, dI) (kT cyB cyI cyJ cyP) A (fun u : Int32 × NI × (Nat → Int64) => ((qdL a0 u.1 jaQ jaD ja7 jby jbf jaM jaY jap jaK jal jam jax jao ja6 jaV ja8 jae jag jaf ja0 ja4 jaP jaw jaI jaZ jaH jaS jan jaU jaE jar jaL jah jaB jaa jaz jaG jab ja2 z0_s jaq jai jaO jaA jat jau jav jaj jas jjj jak jad jay jac jaQ cyI u.2.1 jjj cyJ u.2.2) : va_W))) A) args s 0 0 A) (F0 m 100 ls []) := by
  obtain ⟨hx, hb, hr, hts, hown, hlocks, hml, hA, hK, hNw⟩ := id C0
  intro n
  induction n with
  | zero => intro H locs ls jbd ja9 jkG l1 l2 l3 l4 l5 l7 hP hD hS hl hw; exact False.elim hw
  | succ n ih =>
    intro H locs ls jbd ja9 jkG l1 l2 l3 l4 l5 l7 hP hD hS hl hw
    refine lv_iload hx hb (qaa qlW 5 rfl) (lv_at hl 6 rfl) ?_
    refine lv_iload_n hx hb (qaa qlW 6 rfl) rfl (lv_at hl 1 rfl) ?_
    refine lv_icmp_ge (tgt := 177) hx hb (qaa qlW 7 rfl) (by decide) (fun c15 => ?_) (fun c15 => ?_)
    · have hw := hw.1 c15
      refine lv_lconst (v := 0) hx hb (qaa qjb 15 rfl) (by decide) ?_
      refine lv_lstore (lv' := [(7, .long 0), (0, .ref a0), (1, .int l1), (2, .int l2), (3, .int l3), (4, .int l4), (5, .long l5)]) hx hb (qaa qjn 0 rfl) hl (by decide) rfl (fun ls hl => ?_)
      refine lv_iconst (v := 0) hx hb (qaa qjn 1 rfl) (by decide) ?_
      refine lv_istore (lv' := [(9, .int 0), (7, .long 0), (0, .ref a0), (1, .int l1), (2, .int l2), (3, .int l3), (4, .int l4), (5, .long l5)]) hx hb (qaa qjn 2 rfl) hl (by decide) rfl (fun ls hl => ?_)
      obtain ⟨n9, hw⟩ := hw
      exact qaFB dC dI cyB cyI cyJ cyP a0 jaQ jjj jaD ja7 jby jbf jaM jaY jap jaK jal jam jax jao ja6 jaV ja8 jae jag jaf ja0 ja4 jaP jaw jaI jaZ jaH jaS jan jaU jaE jar jaL jah jaB jaa jaz jaG jab ja2 z0_s jaq jai jaO jaA jat jau jav jaj jas jak jad jay jac Q C0 n9 _ _ _ jbd ja9 jkG l2 l4 l5 0 0 hP hD hS (lv_sub hl [2, 4, 6, 7, 1, 0] rfl) hw
    · have hw := hw.2 c15
      refine lv_bipush (v := 13) hx hb (qaa qlW 8 rfl) (by decide) ?_
      refine lv_istore (lv' := [(8, .int 13), (0, .ref a0), (1, .int l1), (2, .int l2), (3, .int l3), (4, .int l4), (5, .long l5), (7, .int l7)]) hx hb (qaa qlW 9 rfl) hl (by decide) rfl (fun ls hl => ?_)
      obtain ⟨n9, hw⟩ := hw
      exact qaEp dC dI cyB cyI cyJ cyP a0 jaQ jjj jaD ja7 jby jbf jaM jaY jap jaK jal jam jax jao ja6 jaV ja8 jae jag jaf ja0 ja4 jaP jaw jaI jaZ jaH jaS jan jaU jaE jar jaL jah jaB jaa jaz jaG jab ja2 z0_s jaq jai jaO jaA jat jau jav jaj jas jak jad jay jac Q (qDV Q n) ih C0 n9 _ _ _ jbd ja9 jkG l1 l2 l3 l4 l5 l7 13 hP hD hS (lv_sub hl [1, 2, 3, 4, 5, 6, 7, 0] rfl) hw
set_option maxHeartbeats 4000000 in
set_option maxRecDepth 100000 in
theorem qaMw {p : Program} {l : Launch} {e : Env} {s : State} {m : MethodId} {args : Array Value} {below : List Frame} {meth : Method} {c : Code} {A : Nat → Prop} (dC : Nat → ClassId) (dI : Nat → Nat → Nat) (cyB cyI cyJ cyP : ClassId) (a0 jaQ jjj : Nat) (jaD ja7 jby jbf jaM jaY jap jaK jal jam jax jao ja6 jaV ja8 jae jag jaf ja0 ja4 jaP jaw jaI jaZ jaH jaS jan jaU jaE jar jaL jah jaB jaa jaz jaG jab ja2 z0_s jaq jai jaO jaA jat jau jav jaj jas jak jad jay jac : Value) (Q : Int64 → Int32 → NI → (Nat → Int64) → Prop) (C0 : cfx p s m args meth c cX11_few (some .long) wsX11_few RX11 10 A (dC, dI) (kT cyB cyI cyJ cyP)) : ∀ (n : Nat) (H : Heap) (locs : List Loc) (ls : Array Slot) (jbd : Int32) (ja9 : NI) (jkG : Nat → Int64) (l1 l2 l3 l4 l5 : Int32), va_P (dC, dI) vwCl (qdL a0 jbd jaQ jaD ja7 jby jbf jaM jaY jap jaK jal jam jax jao ja6 jaV ja8 jae jag jaf ja0 ja4 jaP jaw jaI jaZ jaH jaS jan jaU jaE jar jaL jah jaB jaa jaz jaG jab ja2 z0_s jaq jai jaO jaA jat jau jav jaj jas jjj jak jad jay jac jaQ cyI ja9 jjj cyJ jkG) H → va_D A (qdL a0 jbd jaQ jaD ja7 jby jbf jaM jaY jap jaK jal jam jax jao ja6 jaV ja8 jae jag jaf ja0 ja4 jaP jaw jaI jaZ jaH jaS jan jaU jaE jar jaL jah jaB jaa jaz jaG jab ja2 z0_s jaq jai jaO jaA jat jau jav jaj jas jjj jak jad jay jac jaQ cyI ja9 jjj cyJ jkG) → va_S A s.heap H locs → lv_has ls 10 [(0, .ref a0), (1, .int l1), (2, .int l2), (3, .int l3), (4, .int l4), (5, .int l5)] → qwO Q n jbd ja9 jkG l1 l2 l3 l4 l5 → W p l e (headSpec wsX11_few ({ frames := 1, cells := 0, slots := 0, locals := 30 })).room s m args below meth c H locs 0 0 (MQ below (va_Ql (fun (r : Int64) (u : Int32 × NI × (Nat → Int64)) => Q r u.1 u.2.1 u.2.2) (cB (dC, dI) (kT cyB cyI cyJ cyP) A (fun u : Int32 × NI × (Nat → Int64) => ((qdL a0 u.1 jaQ jaD ja7 jby jbf jaM jaY jap jaK jal jam jax jao ja6 jaV ja8 jae jag jaf ja0 ja4 jaP jaw jaI jaZ jaH jaS jan jaU jaE jar jaL jah jaB jaa jaz jaG jab ja2 z0_s jaq jai jaO jaA jat jau jav jaj jas jjj jak jad jay jac jaQ cyI u.2.1 jjj cyJ u.2.2) : va_W))) A) args s 0 0 A) (F0 m 64 ls []) := by
  obtain ⟨hx, hb, hr, hts, hown, hlocks, hml, hA, hK, hNw⟩ := id C0
  intro n
  induction n with
  | zero => intro H locs ls jbd ja9 jkG l1 l2 l3 l4 l5 hP hD hS hl hw; exact False.elim hw
  | succ n ih =>
    intro H locs ls jbd ja9 jkG l1 l2 l3 l4 l5 hP hD hS hl hw
    refine lv_iload hx hb (qaa qlF 3 rfl) (lv_at hl 5 rfl) ?_
    refine lv_bipush (v := 14) hx hb (qaa qlF 4 rfl) (by decide) ?_
    refine lv_icmp_ge (tgt := 94) hx hb (qaa qlF 5 rfl) (by decide) (fun c13 => ?_) (fun c13 => ?_)
    · have hw := hw.1 c13
      refine lv_lconst (v := 1) hx hb (qaa qlW 1 rfl) (by decide) ?_
      refine lv_lstore (lv' := [(5, .long 1), (0, .ref a0), (1, .int l1), (2, .int l2), (3, .int l3), (4, .int l4)]) hx hb (qaa qlW 2 rfl) hl (by decide) rfl (fun ls hl => ?_)
      refine lv_iconst (v := 0) hx hb (qaa qlW 3 rfl) (by decide) ?_
      refine lv_istore (lv' := [(7, .int 0), (5, .long 1), (0, .ref a0), (1, .int l1), (2, .int l2), (3, .int l3), (4, .int l4)]) hx hb (qaa qlW 4 rfl) hl (by decide) rfl (fun ls hl => ?_)
      obtain ⟨n9, hw⟩ := hw
      exact qaFx dC dI cyB cyI cyJ cyP a0 jaQ jjj jaD ja7 jby jbf jaM jaY jap jaK jal jam jax jao ja6 jaV ja8 jae jag jaf ja0 ja4 jaP jaw jaI jaZ jaH jaS jan jaU jaE jar jaL jah jaB jaa jaz jaG jab ja2 z0_s jaq jai jaO jaA jat jau jav jaj jas jak jad jay jac Q C0 n9 _ _ _ jbd ja9 jkG l1 l2 l3 l4 1 0 hP hD hS (lv_sub hl [2, 3, 4, 5, 6, 1, 0] rfl) hw
    · have hw := hw.2 c13
      refine lv_aload_n hx hb (qaa qlF 6 rfl) rfl (lv_at hl 0 rfl) ?_
      refine va_get (D := (dC, dI)) (ci := 11) (v := .ref jjj) (C := RX11) (T := TX11) (N := 55) hx hb hts qAE hown hK hP 0 rfl rfl 50 (by decide) (hts _ qDT) (fun _ h9 => h9) rfl (qaa qlF 7 rfl) ?_
      refine lv_iload hx hb (qaa qlF 8 rfl) (lv_at hl 5 rfl) ?_
      refine lv_iload hx hb (qaa qlF 9 rfl) (lv_at hl 5 rfl) ?_
      refine lv_if_ne (tgt := 86) hx hb (qaa qlF 10 rfl) (by decide) (fun c14 => ?_) (fun c14 => ?_)
      · have hw := hw.1 c14
        refine lv_lconst (v := 0) hx hb (qaa qlF 13 rfl) (by decide) ?_
        exact qadQ dC dI cyB cyI cyJ cyP a0 jaQ jjj jaD ja7 jby jbf jaM jaY jap jaK jal jam jax jao ja6 jaV ja8 jae jag jaf ja0 ja4 jaP jaw jaI jaZ jaH jaS jan jaU jaE jar jaL jah jaB jaa jaz jaG jab ja2 z0_s jaq jai jaO jaA jat jau jav jaj jas jak jad jay jac Q (qwO Q n) ih C0 _ _ _ jbd ja9 jkG l1 l2 l3 l4 l5 l5 0 hP hD hS (lv_sub hl [0, 1, 2, 3, 4, 5] rfl) hw
      · have hw := hw.2 c14
        refine lv_lconst (v := 1) hx hb (qaa qlF 11 rfl) (by decide) ?_
        refine lv_goto (tgt := 87) hx hb (qaa qlF 12 rfl) (by decide) ?_
        exact qadQ dC dI cyB cyI cyJ cyP a0 jaQ jjj jaD ja7 jby jbf jaM jaY jap jaK jal jam jax jao ja6 jaV ja8 jae jag jaf ja0 ja4 jaP jaw jaI jaZ jaH jaS jan jaU jaE jar jaL jah jaB jaa jaz jaG jab ja2 z0_s jaq jai jaO jaA jat jau jav jaj jas jak jad jay jac Q (qwO Q n) ih C0 _ _ _ jbd ja9 jkG l1 l2 l3 l4 l5 l5 1 hP hD hS (lv_sub hl [0, 1, 2, 3, 4, 5] rfl) hw
set_option maxHeartbeats 4000000 in
set_option maxRecDepth 100000 in
theorem qahm {p : Program} {l : Launch} {e : Env} {s : State} {m : MethodId} {args : Array Value} {below : List Frame} {meth : Method} {c : Code} {A : Nat → Prop} (dC : Nat → ClassId) (dI : Nat → Nat → Nat) (cyB cyI cyJ cyP : ClassId) (a0 jaQ jjj : Nat) (jaD ja7 jby jbf jaM jaY jap jaK jal jam jax jao ja6 jaV ja8 jae jag jaf ja0 ja4 jaP jaw jaI jaZ jaH jaS jan jaU jaE jar jaL jah jaB jaa jaz jaG jab ja2 z0_s jaq jai jaO jaA jat jau jav jaj jas jak jad jay jac : Value) (Q : Int64 → Int32 → NI → (Nat → Int64) → Prop) (C0 : cfx p s m args meth c cX11_few (some .long) wsX11_few RX11 10 A (dC, dI) (kT cyB cyI cyJ cyP)) : ∀ (H : Heap) (locs : List Loc) (ls : Array Slot) (jbd : Int32) (ja9 : NI) (jkG : Nat → Int64) (l1 l2 l3 l4 s1 : Int32), va_P (dC, dI) vwCl (qdL a0 jbd jaQ jaD ja7 jby jbf jaM jaY jap jaK jal jam jax jao ja6 jaV ja8 jae jag jaf ja0 ja4 jaP jaw jaI jaZ jaH jaS jan jaU jaE jar jaL jah jaB jaa jaz jaG jab ja2 z0_s jaq jai jaO jaA jat jau jav jaj jas jjj jak jad jay jac jaQ cyI ja9 jjj cyJ jkG) H → va_D A (qdL a0 jbd jaQ jaD ja7 jby jbf jaM jaY jap jaK jal jam jax jao ja6 jaV ja8 jae jag jaf ja0 ja4 jaP jaw jaI jaZ jaH jaS jan jaU jaE jar jaL jah jaB jaa jaz jaG jab ja2 z0_s jaq jai jaO jaA jat jau jav jaj jas jjj jak jad jay jac jaQ cyI ja9 jjj cyJ jkG) → va_S A s.heap H locs → lv_has ls 10 [(0, .ref a0), (1, .int l1), (2, .int l2), (3, .int l3), (4, .int l4)] → qWh Q jbd ja9 jkG l1 l2 l3 l4 s1 → W p l e (headSpec wsX11_few ({ frames := 1, cells := 0, slots := 0, locals := 30 })).room s m args below meth c H locs 0 0 (MQ below (va_Ql (fun (r : Int64) (u : Int32 × NI × (Nat → Int64)) => Q r u.1 u.2.1 u.2.2) (cB (dC, dI) (kT cyB cyI cyJ cyP) A (fun u : Int32 × NI × (Nat → Int64) => ((qdL a0 u.1 jaQ jaD ja7 jby jbf jaM jaY jap jaK jal jam jax jao ja6 jaV ja8 jae jag jaf ja0 ja4 jaP jaw jaI jaZ jaH jaS jan jaU jaE jar jaL jah jaB jaa jaz jaG jab ja2 z0_s jaq jai jaO jaA jat jau jav jaj jas jjj jak jad jay jac jaQ cyI u.2.1 jjj cyJ u.2.2) : va_W))) A) args s 0 0 A) (F0 m 51 ls [.int s1, .ref a0]) := by
  obtain ⟨hx, hb, hr, hts, hown, hlocks, hml, hA, hK, hNw⟩ := id C0
  intro H locs ls jbd ja9 jkG l1 l2 l3 l4 s1 hP hD hS hl hw
  refine lv_iconst (v := 1) hx hb (qaa ql4 11 rfl) (by decide) ?_
  refine lv_iconst (v := 1) hx hb (qaa ql4 12 rfl) (by decide) ?_
  obtain ⟨hCc, hPc, hDc, hFc⟩ := qac (ws' := (qa6t a0 jbd jaQ jaD ja7 jby jbf jaM jaY jap jaK jal jam jax jao ja6 jaV ja8 jae jag jaf ja0 ja4 jaP jaw jaI jaZ jaH jaS jan jaU jaE jar jaL jah jaB jaa jaz jaG jab ja2 z0_s jaq jai jaO jaA jat jau jav jaj jas jjj jak jad jay jac jaQ cyI ja9)) hP hD hS hA [0, 1] (by decide +kernel) rfl
  refine va_calli (va_runV (As := [.int s1, .int 1, .int 1]) (rest := []) ⟨hx, hb, hml, hown, hts⟩ (qkO l dC dI cyB cyI cyJ cyP a0 jaQ H.size (jaD) (ja7) (jby) (jbf) (jaM) (jaY) (jap) (jaK) (jal) (jam) (jax) (jao) (ja6) (jaV) (ja8) (jae) (jag) (jaf) (ja0) (ja4) (jaP) (jaw) (jaI) (jaZ) (jaH) (jaS) (jan) (jaU) (jaE) (jar) (jaL) (jah) (jaB) (jaa) (jaz) (jaG) (jab) (ja2) (z0_s) (jaq) (jai) (jaO) (jaA) (jat) (jau) (jav) (jaj) (jas) (.ref jjj) (jak) (jad) (jay) (jac) jbd ja9 s1 1 1 hw) (cwV 3 hts gX11_few_X11_may rfl rfl rfl (by decide +kernel) ⟨nbq rfl, nbq rfl⟩) ⟨qab, va_recv (q := (RX11, TX11, 55)) hK hPc (ci := 11) (q0 := 0) rfl rfl, qae hPc hK hDc hNw⟩ rfl rfl hl.1 rfl (lv_room (nbq rfl)) (qaa ql4 13 rfl) ⟨nbq rfl, nbq rfl⟩) hS (fun q _ h => hFc q h) hFc (fun r11 u t H1 locs ht hvm hw hB hz1 hk1 hS => ?_)
  obtain ⟨x9, f10⟩ := u
  obtain ⟨hP1, hK1, hD1⟩ := hB
  rw [ht] at hP1
  obtain ⟨hP, hD⟩ := qad (wr := [(jjj, .inl (cyJ, 14, .inr (.inl jkG)))]) (w1 := (qa6t a0 x9 jaQ jaD ja7 jby jbf jaM jaY jap jaK jal jam jax jao ja6 jaV ja8 jae jag jaf ja0 ja4 jaP jaw jaI jaZ jaH jaS jan jaU jaE jar jaL jah jaB jaa jaz jaG jab ja2 z0_s jaq jai jaO jaA jat jau jav jaj jas jjj jak jad jay jac jaQ cyI f10)) (wn := (qdL a0 x9 jaQ jaD ja7 jby jbf jaM jaY jap jaK jal jam jax jao ja6 jaV ja8 jae jag jaf ja0 ja4 jaP jaw jaI jaZ jaH jaS jan jaU jaE jar jaL jah jaB jaa jaz jaG jab ja2 z0_s jaq jai jaO jaA jat jau jav jaj jas jjj jak jad jay jac jaQ cyI f10 jjj cyJ jkG)) hP hD [0, 1] [2] [1, 2, 0] hCc rfl (by decide +kernel) (by decide +kernel) (by decide +kernel) rfl hk1 hFc hP1 hD1
  generalize H1 = H at hP hS ⊢
  refine lv_if_ne (tgt := 61) hx hb (qaa ql4 14 rfl) (by decide) (fun c12 => ?_) (fun c12 => ?_)
  · have hw := hw.1 c12
    refine lv_iconst (v := 0) hx hb (qaa qlF 1 rfl) (by decide) ?_
    refine lv_istore (lv' := [(5, .int 0), (0, .ref a0), (1, .int l1), (2, .int l2), (3, .int l3), (4, .int l4)]) hx hb (qaa qlF 2 rfl) hl (by decide) rfl (fun ls hl => ?_)
    obtain ⟨n9, hw⟩ := hw
    exact qaMw dC dI cyB cyI cyJ cyP a0 jaQ jjj jaD ja7 jby jbf jaM jaY jap jaK jal jam jax jao ja6 jaV ja8 jae jag jaf ja0 ja4 jaP jaw jaI jaZ jaH jaS jan jaU jaE jar jaL jah jaB jaa jaz jaG jab ja2 z0_s jaq jai jaO jaA jat jau jav jaj jas jak jad jay jac Q C0 n9 _ _ _ x9 f10 jkG l1 l2 l3 l4 0 hP hD hS (lv_sub hl [1, 2, 3, 4, 5, 0] rfl) hw
  · have hw := hw.2 c12
    refine lv_lconst (v := 0) hx hb (qaa ql4 15 rfl) (by decide) ?_
    exact ((W.lret (v := 0) hx hb hr (fun t ht hW => ⟨⟨0, (x9, f10, jkG), rfl, hw, by rw [ht]; exact hP, va_K.moved hW.alike hK, hD⟩, hS.F ht⟩) hS.2.2 (qaa qlF 0 rfl)))
set_option maxHeartbeats 4000000 in
set_option maxRecDepth 100000 in
theorem qN0 {p : Program} {l : Launch} {e : Env} {s : State} {m : MethodId} {args : Array Value} {below : List Frame} {meth : Method} {c : Code} {A : Nat → Prop} (dC : Nat → ClassId) (dI : Nat → Nat → Nat) (cyB cyI cyJ cyP : ClassId) (a0 jaQ jjj : Nat) (jaD ja7 jby jbf jaM jaY jap jaK jal jam jax jao ja6 jaV ja8 jae jag jaf ja0 ja4 jaP jaw jaI jaZ jaH jaS jan jaU jaE jar jaL jah jaB jaa jaz jaG jab ja2 z0_s jaq jai jaO jaA jat jau jav jaj jas jak jad jay jac : Value) (Q : Int64 → Int32 → NI → (Nat → Int64) → Prop) (C0 : cfx p s m args meth c cX11_few (some .long) wsX11_few RX11 10 A (dC, dI) (kT cyB cyI cyJ cyP)) : ∀ (H : Heap) (locs : List Loc) (ls : Array Slot) (jbd : Int32) (ja9 : NI) (jkG : Nat → Int64) (l1 l2 l3 l4 : Int32), va_P (dC, dI) vwCl (qdL a0 jbd jaQ jaD ja7 jby jbf jaM jaY jap jaK jal jam jax jao ja6 jaV ja8 jae jag jaf ja0 ja4 jaP jaw jaI jaZ jaH jaS jan jaU jaE jar jaL jah jaB jaa jaz jaG jab ja2 z0_s jaq jai jaO jaA jat jau jav jaj jas jjj jak jad jay jac jaQ cyI ja9 jjj cyJ jkG) H → va_D A (qdL a0 jbd jaQ jaD ja7 jby jbf jaM jaY jap jaK jal jam jax jao ja6 jaV ja8 jae jag jaf ja0 ja4 jaP jaw jaI jaZ jaH jaS jan jaU jaE jar jaL jah jaB jaa jaz jaG jab ja2 z0_s jaq jai jaO jaA jat jau jav jaj jas jjj jak jad jay jac jaQ cyI ja9 jjj cyJ jkG) → va_S A s.heap H locs → lv_has ls 10 [(0, .ref a0), (1, .int l1), (2, .int l2), (3, .int l3), (4, .int l4)] → qCI Q jbd ja9 jkG l1 l2 l3 l4 → W p l e (headSpec wsX11_few ({ frames := 1, cells := 0, slots := 0, locals := 30 })).room s m args below meth c H locs 0 0 (MQ below (va_Ql (fun (r : Int64) (u : Int32 × NI × (Nat → Int64)) => Q r u.1 u.2.1 u.2.2) (cB (dC, dI) (kT cyB cyI cyJ cyP) A (fun u : Int32 × NI × (Nat → Int64) => ((qdL a0 u.1 jaQ jaD ja7 jby jbf jaM jaY jap jaK jal jam jax jao ja6 jaV ja8 jae jag jaf ja0 ja4 jaP jaw jaI jaZ jaH jaS jan jaU jaE jar jaL jah jaB jaa jaz jaG jab ja2 z0_s jaq jai jaO jaA jat jau jav jaj jas jjj jak jad jay jac jaQ cyI u.2.1 jjj cyJ u.2.2) : va_W))) A) args s 0 0 A) (F0 m 50 ls [.ref a0]) := by
  obtain ⟨hx, hb, hr, hts, hown, hlocks, hml, hA, hK, hNw⟩ := id C0
  intro H locs ls jbd ja9 jkG l1 l2 l3 l4 hP hD hS hl hw
  refine lv_iconst (v := 0) hx hb (qaa ql4 10 rfl) (by decide) ?_
  exact qahm dC dI cyB cyI cyJ cyP a0 jaQ jjj jaD ja7 jby jbf jaM jaY jap jaK jal jam jax jao ja6 jaV ja8 jae jag jaf ja0 ja4 jaP jaw jaI jaZ jaH jaS jan jaU jaE jar jaL jah jaB jaa jaz jaG jab ja2 z0_s jaq jai jaO jaA jat jau jav jaj jas jak jad jay jac Q C0 _ _ _ jbd ja9 jkG l1 l2 l3 l4 0 hP hD hS (lv_sub hl [0, 1, 2, 3, 4] rfl) hw
set_option maxHeartbeats 4000000 in
set_option maxRecDepth 100000 in
theorem qa2O (l : Launch) (dC : Nat → ClassId) (dI : Nat → Nat → Nat) (cyB cyI cyJ cyP : ClassId) (a0 jaQ jjj sz : Nat) (jaD ja7 jby jbf jaM jaY jap jaK jal jam jax jao ja6 jaV ja8 jae jag jaf ja0 ja4 jaP jaw jaI jaZ jaH jaS jan jaU jaE jar jaL jah jaB jaa jaz jaG jab ja2 z0_s jaq jai jaO jaA jat jau jav jaj jas jak jad jay jac : Value) (jbd : Int32) (ja9 : NI) (jkG : Nat → Int64) (p1 p2 p3 p4 : Int32) {Q : Int64 → Int32 → NI → (Nat → Int64) → Prop} (hw : qam1 jbd ja9 jkG p1 p2 p3 p4 Q) : Met l yX11_few wsX11_few ({ frames := 1, cells := 0, slots := 0, locals := 30 }) (va_Pc [.ref a0, .int p1, .int p2, .int p3, .int p4] (cPc (dC, dI) (kT cyB cyI cyJ cyP) (qdL a0 jbd jaQ jaD ja7 jby jbf jaM jaY jap jaK jal jam jax jao ja6 jaV ja8 jae jag jaf ja0 ja4 jaP jaw jaI jaZ jaH jaS jan jaU jaE jar jaL jah jaB jaa jaz jaG jab ja2 z0_s jaq jai jaO jaA jat jau jav jaj jas jjj jak jad jay jac jaQ cyI ja9 jjj cyJ jkG) sz)) (va_Ql (fun (r : Int64) (u : Int32 × NI × (Nat → Int64)) => Q r u.1 u.2.1 u.2.2) (cB (dC, dI) (kT cyB cyI cyJ cyP) (va_A (qdL a0 jbd jaQ jaD ja7 jby jbf jaM jaY jap jaK jal jam jax jao ja6 jaV ja8 jae jag jaf ja0 ja4 jaP jaw jaI jaZ jaH jaS jan jaU jaE jar jaL jah jaB jaa jaz jaG jab ja2 z0_s jaq jai jaO jaA jat jau jav jaj jas jjj jak jad jay jac jaQ cyI ja9 jjj cyJ jkG) sz) (fun u : Int32 × NI × (Nat → Int64) => ((qdL a0 u.1 jaQ jaD ja7 jby jbf jaM jaY jap jaK jal jam jax jao ja6 jaV ja8 jae jag jaf ja0 ja4 jaP jaw jaI jaZ jaH jaS jan jaU jaE jar jaL jah jaB jaa jaz jaG jab ja2 z0_s jaq jai jaO jaA jat jau jav jaj jas jjj jak jad jay jac jaQ cyI u.2.1 jjj cyJ u.2.2) : va_W))) (va_A (qdL a0 jbd jaQ jaD ja7 jby jbf jaM jaY jap jaK jal jam jax jao ja6 jaV ja8 jae jag jaf ja0 ja4 jaP jaw jaI jaZ jaH jaS jan jaU jaE jar jaL jah jaB jaa jaz jaG jab ja2 z0_s jaq jai jaO jaA jat jau jav jaj jas jjj jak jad jay jac jaQ cyI ja9 jjj cyJ jkG) sz)) 0 0 (va_A (qdL a0 jbd jaQ jaD ja7 jby jbf jaM jaY jap jaK jal jam jax jao ja6 jaV ja8 jae jag jaf ja0 ja4 jaP jaw jaI jaZ jaH jaS jan jaU jaE jar jaL jah jaB jaa jaz jaG jab ja2 z0_s jaq jai jaO jaA jat jau jav jaj jas jjj jak jad jay jac jaQ cyI ja9 jjj cyJ jkG) sz) := by
  refine Met.ofW (cc := cX11_few) (maxL := 10) (ret := (some .long)) (by decide) rfl ?_
  intro p e s m args below meth c s₁ B hml hv
  obtain ⟨rfl, hsz, hP, hK, hD0, hNw⟩ := hv
  have hx := B.exec
  have hb := B.bytes
  have hr := B.returns
  have hts := atoms_spec (ws := wsX11_few) B.pre
  have hown : s.vm.findClass RX11 = some m.cls := findClass_of_methodNamed B.named
  have hlocks := B.notSynchronized
  subst hsz
  have hD := hD0.self (sz := s.heap.size)
  generalize hAe : va_A (qdL a0 jbd jaQ jaD ja7 jby jbf jaM jaY jap jaK jal jam jax jao ja6 jaV ja8 jae jag jaf ja0 ja4 jaP jaw jaI jaZ jaH jaS jan jaU jaE jar jaL jah jaB jaa jaz jaG jab ja2 z0_s jaq jai jaO jaA jat jau jav jaj jas jjj jak jad jay jac jaQ cyI ja9 jjj cyJ jkG) s.heap.size = A at hD ⊢
  have hA : ∀ q : Nat, s.heap.size ≤ q → A q := fun q h => by rw [← hAe]; exact Or.inr h
  have hS : va_S A s.heap s.heap [] := va_S.rf
  have hP : va_P (dC, dI) vwCl (qdL a0 jbd jaQ jaD ja7 jby jbf jaM jaY jap jaK jal jam jax jao ja6 jaV ja8 jae jag jaf ja0 ja4 jaP jaw jaI jaZ jaH jaS jan jaU jaE jar jaL jah jaB jaa jaz jaG jab ja2 z0_s jaq jai jaO jaA jat jau jav jaj jas jjj jak jad jay jac jaQ cyI ja9 jjj cyJ jkG) s.heap := hP
  have hl := lv_entry ([.ref a0, .int p1, .int p2, .int p3, .int p4]) (n := 10) (nbq rfl)
  rw [lg_entry_eq]
  generalize (lg_sl ([.ref a0, .int p1, .int p2, .int p3, .int p4]) ++ List.replicate (10 - (lg_sl ([.ref a0, .int p1, .int p2, .int p3, .int p4])).length) Slot.unset).toArray = ls at hl ⊢
  have hl : lv_has ls 10 [(0, .ref a0), (1, .int p1), (2, .int p2), (3, .int p3), (4, .int p4)] := hl
  have C0 : cfx p s m _ meth c cX11_few (some .long) wsX11_few RX11 10 A (dC, dI) (kT cyB cyI cyJ cyP) := ⟨hx, hb, hr, hts, hown, hlocks, hml, hA, hK, hNw⟩
  clear hAe
  obtain ⟨H, hH⟩ : ∃ H, H = s.heap := ⟨_, rfl⟩
  rw [← hH] at hP ⊢
  have hS : va_S A s.heap H [] := by rw [hH]; exact va_S.rf
  have hS := hS
  refine lv_aload_n hx hb (qaa qoE 0 rfl) rfl (lv_at hl 0 rfl) ?_
  refine lv_iconst (v := 0) hx hb (qaa qoE 1 rfl) (by decide) ?_
  refine va_put (D := (dC, dI)) (ci := 11) (v := .int 0) (ty := .int) (C := RX11) (T := TX11) (N := 55) hx hb hts qAE tyX11 tyX11_ok nmX11 hown hK hP hD hS 0 rfl rfl 0 (by decide) (hts _ qaRq) (fun _ h9 => h9) rfl (by decide +kernel) rfl rfl (nbq rfl) (qaa qoE 2 rfl) (fun H locs hP hD hS => ?_)
  have hP : va_P (dC, dI) vwCl (qdL a0 0 jaQ jaD ja7 jby jbf jaM jaY jap jaK jal jam jax jao ja6 jaV ja8 jae jag jaf ja0 ja4 jaP jaw jaI jaZ jaH jaS jan jaU jaE jar jaL jah jaB jaa jaz jaG jab ja2 z0_s jaq jai jaO jaA jat jau jav jaj jas jjj jak jad jay jac jaQ cyI ja9 jjj cyJ jkG) H := hP
  have hD : va_D A (qdL a0 0 jaQ jaD ja7 jby jbf jaM jaY jap jaK jal jam jax jao ja6 jaV ja8 jae jag jaf ja0 ja4 jaP jaw jaI jaZ jaH jaS jan jaU jaE jar jaL jah jaB jaa jaz jaG jab ja2 z0_s jaq jai jaO jaA jat jau jav jaj jas jjj jak jad jay jac jaQ cyI ja9 jjj cyJ jkG) := hD
  refine lv_aload_n hx hb (qaa qoE 3 rfl) rfl (lv_at hl 0 rfl) ?_
  refine lv_iload_n hx hb (qaa qoE 4 rfl) rfl (lv_at hl 1 rfl) ?_
  refine lv_iconst (v := 0) hx hb (qaa qoE 5 rfl) (by decide) ?_
  refine lv_bipush (v := 12) hx hb (qaa qoE 6 rfl) (by decide) ?_
  obtain ⟨hCc, hPc, hDc, hFc⟩ := qac (ws' := []) hP hD hS hA [] (by decide +kernel) rfl
  refine va_calli (va_runS (As := [.int p1, .int 0, .int 12]) (rest := [.ref a0]) ⟨hx, hb, hml, hown, hts⟩ (qbH l dC dI cyB cyI cyJ cyP H.size p1 0 12 hw) (va_cwS 3 hts gX11_few_X11_within rfl rfl rfl (by decide +kernel) ⟨nbq rfl, nbq rfl⟩) ⟨qab, qae hPc hK hDc hNw⟩ rfl rfl hl.1 rfl (lv_room (nbq rfl)) (qaa qoE 7 rfl) ⟨nbq rfl, nbq rfl⟩) hS (fun q _ h => hFc q h) hFc (fun r1 u t H1 locs ht hvm hw hB hz1 hk1 hS => ?_)
  obtain ⟨hP1, hK1, hD1⟩ := hB
  rw [ht] at hP1
  obtain ⟨hP, hD⟩ := qah (wr := (qdL a0 0 jaQ jaD ja7 jby jbf jaM jaY jap jaK jal jam jax jao ja6 jaV ja8 jae jag jaf ja0 ja4 jaP jaw jaI jaZ jaH jaS jan jaU jaE jar jaL jah jaB jaa jaz jaG jab ja2 z0_s jaq jai jaO jaA jat jau jav jaj jas jjj jak jad jay jac jaQ cyI ja9 jjj cyJ jkG)) (w1 := []) (wn := (qdL a0 0 jaQ jaD ja7 jby jbf jaM jaY jap jaK jal jam jax jao ja6 jaV ja8 jae jag jaf ja0 ja4 jaP jaw jaI jaZ jaH jaS jan jaU jaE jar jaL jah jaB jaa jaz jaG jab ja2 z0_s jaq jai jaO jaA jat jau jav jaj jas jjj jak jad jay jac jaQ cyI ja9 jjj cyJ jkG)) hP hD [] [0, 1, 2] hCc rfl (by decide +kernel) (by decide +kernel) rfl hk1 hFc hP1 hD1
  generalize H1 = H at hP hS ⊢
  refine lv_if_eq (tgt := 50) hx hb (qaa qoE 8 rfl) (by decide) (fun c2 => ?_) (fun c2 => ?_)
  · have hw := hw.1 c2
    exact qN0 dC dI cyB cyI cyJ cyP a0 jaQ jjj jaD ja7 jby jbf jaM jaY jap jaK jal jam jax jao ja6 jaV ja8 jae jag jaf ja0 ja4 jaP jaw jaI jaZ jaH jaS jan jaU jaE jar jaL jah jaB jaa jaz jaG jab ja2 z0_s jaq jai jaO jaA jat jau jav jaj jas jak jad jay jac Q C0 _ _ _ 0 ja9 jkG p1 p2 p3 p4 hP hD hS (lv_sub hl [0, 1, 2, 3, 4] rfl) hw
  · have hw := hw.2 c2
    refine lv_iload_n hx hb (qaa qoE 9 rfl) rfl (lv_at hl 2 rfl) ?_
    refine lv_iconst (v := 0) hx hb (qaa qoE 10 rfl) (by decide) ?_
    refine lv_bipush (v := 12) hx hb (qaa qoE 11 rfl) (by decide) ?_
    obtain ⟨hCc, hPc, hDc, hFc⟩ := qac (ws' := []) hP hD hS hA [] (by decide +kernel) rfl
    refine va_calli (va_runS (As := [.int p2, .int 0, .int 12]) (rest := [.ref a0]) ⟨hx, hb, hml, hown, hts⟩ (qbH l dC dI cyB cyI cyJ cyP H.size p2 0 12 hw) (va_cwS 3 hts gX11_few_X11_within rfl rfl rfl (by decide +kernel) ⟨nbq rfl, nbq rfl⟩) ⟨qab, qae hPc hK hDc hNw⟩ rfl rfl hl.1 rfl (lv_room (nbq rfl)) (qaa qoE 12 rfl) ⟨nbq rfl, nbq rfl⟩) hS (fun q _ h => hFc q h) hFc (fun r3 u t H1 locs ht hvm hw hB hz1 hk1 hS => ?_)
    obtain ⟨hP1, hK1, hD1⟩ := hB
    rw [ht] at hP1
    obtain ⟨hP, hD⟩ := qah (wr := (qdL a0 0 jaQ jaD ja7 jby jbf jaM jaY jap jaK jal jam jax jao ja6 jaV ja8 jae jag jaf ja0 ja4 jaP jaw jaI jaZ jaH jaS jan jaU jaE jar jaL jah jaB jaa jaz jaG jab ja2 z0_s jaq jai jaO jaA jat jau jav jaj jas jjj jak jad jay jac jaQ cyI ja9 jjj cyJ jkG)) (w1 := []) (wn := (qdL a0 0 jaQ jaD ja7 jby jbf jaM jaY jap jaK jal jam jax jao ja6 jaV ja8 jae jag jaf ja0 ja4 jaP jaw jaI jaZ jaH jaS jan jaU jaE jar jaL jah jaB jaa jaz jaG jab ja2 z0_s jaq jai jaO jaA jat jau jav jaj jas jjj jak jad jay jac jaQ cyI ja9 jjj cyJ jkG)) hP hD [] [0, 1, 2] hCc rfl (by decide +kernel) (by decide +kernel) rfl hk1 hFc hP1 hD1
    generalize H1 = H at hP hS ⊢
    refine lv_if_eq (tgt := 50) hx hb (qaa qoE 13 rfl) (by decide) (fun c4 => ?_) (fun c4 => ?_)
    · have hw := hw.1 c4
      exact qN0 dC dI cyB cyI cyJ cyP a0 jaQ jjj jaD ja7 jby jbf jaM jaY jap jaK jal jam jax jao ja6 jaV ja8 jae jag jaf ja0 ja4 jaP jaw jaI jaZ jaH jaS jan jaU jaE jar jaL jah jaB jaa jaz jaG jab ja2 z0_s jaq jai jaO jaA jat jau jav jaj jas jak jad jay jac Q C0 _ _ _ 0 ja9 jkG p1 p2 p3 p4 hP hD hS (lv_sub hl [0, 1, 2, 3, 4] rfl) hw
    · have hw := hw.2 c4
      refine lv_iload_n hx hb (qaa qoE 14 rfl) rfl (lv_at hl 3 rfl) ?_
      refine lv_iconst (v := 0) hx hb (qaa qoE 15 rfl) (by decide) ?_
      refine lv_bipush (v := 16) hx hb (qaa ql4 0 rfl) (by decide) ?_
      obtain ⟨hCc, hPc, hDc, hFc⟩ := qac (ws' := []) hP hD hS hA [] (by decide +kernel) rfl
      refine va_calli (va_runS (As := [.int p3, .int 0, .int 16]) (rest := [.ref a0]) ⟨hx, hb, hml, hown, hts⟩ (qbH l dC dI cyB cyI cyJ cyP H.size p3 0 16 hw) (va_cwS 3 hts gX11_few_X11_within rfl rfl rfl (by decide +kernel) ⟨nbq rfl, nbq rfl⟩) ⟨qab, qae hPc hK hDc hNw⟩ rfl rfl hl.1 rfl (lv_room (nbq rfl)) (qaa ql4 1 rfl) ⟨nbq rfl, nbq rfl⟩) hS (fun q _ h => hFc q h) hFc (fun r5 u t H1 locs ht hvm hw hB hz1 hk1 hS => ?_)
      obtain ⟨hP1, hK1, hD1⟩ := hB
      rw [ht] at hP1
      obtain ⟨hP, hD⟩ := qah (wr := (qdL a0 0 jaQ jaD ja7 jby jbf jaM jaY jap jaK jal jam jax jao ja6 jaV ja8 jae jag jaf ja0 ja4 jaP jaw jaI jaZ jaH jaS jan jaU jaE jar jaL jah jaB jaa jaz jaG jab ja2 z0_s jaq jai jaO jaA jat jau jav jaj jas jjj jak jad jay jac jaQ cyI ja9 jjj cyJ jkG)) (w1 := []) (wn := (qdL a0 0 jaQ jaD ja7 jby jbf jaM jaY jap jaK jal jam jax jao ja6 jaV ja8 jae jag jaf ja0 ja4 jaP jaw jaI jaZ jaH jaS jan jaU jaE jar jaL jah jaB jaa jaz jaG jab ja2 z0_s jaq jai jaO jaA jat jau jav jaj jas jjj jak jad jay jac jaQ cyI ja9 jjj cyJ jkG)) hP hD [] [0, 1, 2] hCc rfl (by decide +kernel) (by decide +kernel) rfl hk1 hFc hP1 hD1
      generalize H1 = H at hP hS ⊢
      refine lv_if_eq (tgt := 50) hx hb (qaa ql4 2 rfl) (by decide) (fun c6 => ?_) (fun c6 => ?_)
      · have hw := hw.1 c6
        exact qN0 dC dI cyB cyI cyJ cyP a0 jaQ jjj jaD ja7 jby jbf jaM jaY jap jaK jal jam jax jao ja6 jaV ja8 jae jag jaf ja0 ja4 jaP jaw jaI jaZ jaH jaS jan jaU jaE jar jaL jah jaB jaa jaz jaG jab ja2 z0_s jaq jai jaO jaA jat jau jav jaj jas jak jad jay jac Q C0 _ _ _ 0 ja9 jkG p1 p2 p3 p4 hP hD hS (lv_sub hl [0, 1, 2, 3, 4] rfl) hw
      · have hw := hw.2 c6
        refine lv_iload hx hb (qaa ql4 3 rfl) (lv_at hl 4 rfl) ?_
        refine lv_iconst (v := 0) hx hb (qaa ql4 4 rfl) (by decide) ?_
        refine lv_iconst (v := 1) hx hb (qaa ql4 5 rfl) (by decide) ?_
        obtain ⟨hCc, hPc, hDc, hFc⟩ := qac (ws' := []) hP hD hS hA [] (by decide +kernel) rfl
        refine va_calli (va_runS (As := [.int p4, .int 0, .int 1]) (rest := [.ref a0]) ⟨hx, hb, hml, hown, hts⟩ (qbH l dC dI cyB cyI cyJ cyP H.size p4 0 1 hw) (va_cwS 3 hts gX11_few_X11_within rfl rfl rfl (by decide +kernel) ⟨nbq rfl, nbq rfl⟩) ⟨qab, qae hPc hK hDc hNw⟩ rfl rfl hl.1 rfl (lv_room (nbq rfl)) (qaa ql4 6 rfl) ⟨nbq rfl, nbq rfl⟩) hS (fun q _ h => hFc q h) hFc (fun r7 u t H1 locs ht hvm hw hB hz1 hk1 hS => ?_)
        obtain ⟨hP1, hK1, hD1⟩ := hB
        rw [ht] at hP1
        obtain ⟨hP, hD⟩ := qah (wr := (qdL a0 0 jaQ jaD ja7 jby jbf jaM jaY jap jaK jal jam jax jao ja6 jaV ja8 jae jag jaf ja0 ja4 jaP jaw jaI jaZ jaH jaS jan jaU jaE jar jaL jah jaB jaa jaz jaG jab ja2 z0_s jaq jai jaO jaA jat jau jav jaj jas jjj jak jad jay jac jaQ cyI ja9 jjj cyJ jkG)) (w1 := []) (wn := (qdL a0 0 jaQ jaD ja7 jby jbf jaM jaY jap jaK jal jam jax jao ja6 jaV ja8 jae jag jaf ja0 ja4 jaP jaw jaI jaZ jaH jaS jan jaU jaE jar jaL jah jaB jaa jaz jaG jab ja2 z0_s jaq jai jaO jaA jat jau jav jaj jas jjj jak jad jay jac jaQ cyI ja9 jjj cyJ jkG)) hP hD [] [0, 1, 2] hCc rfl (by decide +kernel) (by decide +kernel) rfl hk1 hFc hP1 hD1
        generalize H1 = H at hP hS ⊢
        refine lv_if_eq (tgt := 50) hx hb (qaa ql4 7 rfl) (by decide) (fun c8 => ?_) (fun c8 => ?_)
        · have hw := hw.1 c8
          exact qN0 dC dI cyB cyI cyJ cyP a0 jaQ jjj jaD ja7 jby jbf jaM jaY jap jaK jal jam jax jao ja6 jaV ja8 jae jag jaf ja0 ja4 jaP jaw jaI jaZ jaH jaS jan jaU jaE jar jaL jah jaB jaa jaz jaG jab ja2 z0_s jaq jai jaO jaA jat jau jav jaj jas jak jad jay jac Q C0 _ _ _ 0 ja9 jkG p1 p2 p3 p4 hP hD hS (lv_sub hl [0, 1, 2, 3, 4] rfl) hw
        · have hw := hw.2 c8
          refine lv_iconst (v := 1) hx hb (qaa ql4 8 rfl) (by decide) ?_
          refine lv_goto (tgt := 51) hx hb (qaa ql4 9 rfl) (by decide) ?_
          exact qahm dC dI cyB cyI cyJ cyP a0 jaQ jjj jaD ja7 jby jbf jaM jaY jap jaK jal jam jax jao ja6 jaV ja8 jae jag jaf ja0 ja4 jaP jaw jaI jaZ jaH jaS jan jaU jaE jar jaL jah jaB jaa jaz jaG jab ja2 z0_s jaq jai jaO jaA jat jau jav jaj jas jak jad jay jac Q C0 _ _ _ 0 ja9 jkG p1 p2 p3 p4 1 hP hD hS (lv_sub hl [0, 1, 2, 3, 4] rfl) hw
theorem qado : ∀ w ∈ u_ws RX11 TX11 55, w ∈ wsX11_rangeOf := uiM qN8 qga (by decide +kernel)
theorem q8L : (.fieldLink RX11 166 "MarchHaresModel" "forms" "I" : Cond) ∈ wsX11_rangeOf := qN8 519 (by decide +kernel)
set_option maxHeartbeats 4000000 in
set_option maxRecDepth 100000 in
theorem qVR {p : Program} {l : Launch} {e : Env} {s : State} {m : MethodId} {args : Array Value} {below : List Frame} {meth : Method} {c : Code} {A : Nat → Prop} (dC : Nat → ClassId) (dI : Nat → Nat → Nat) (cyB cyI cyJ cyP : ClassId) (a0 a0_s ja5 jbu jbB jbG jbg : Nat) (jaX jaF jaD ja7 jby jbf jaM jaY jap jaK jal jam jax jao jaV ja8 jae jag jaf jaP jaw jaI jan jar jaL jah jaB jaa jaz jaG jab ja2 jaq jai jaO jaA jat jau jav jaj jas jaJ jak jad jay jac : Value) (jaN jaC jbD : Int32) (f0_s jbv jcu jbR : NI) (Q : Int32 → NI → NI → Prop) (K4 : NI → NI → Int32 → Int32 → Int32 → Prop) (hK4 : ∀ (H : Heap) (locs : List Loc) (ls : Array Slot) (jbZ jca : NI) (l1 l2 l3 : Int32), va_P (dC, dI) vwCl (qze a0 jaX jaF jaD ja7 jby jbf jaM jaY jap jaK jal jam jax jao ja5 jaV ja8 jae jag jaf jaN jaC jaP jaw jaI jbG jbg jbB jan jbD jbu jar jaL jah jaB jaa jaz jaG jab ja2 a0_s jaq jai jaO jaA jat jau jav jaj jas jaJ jak jad jay jac a0_s cyI f0_s ja5 cyI jbv jbu cyI jbZ jbB cyI jca jbG cyI jcu jbg cyI jbR) H → va_D A (qze a0 jaX jaF jaD ja7 jby jbf jaM jaY jap jaK jal jam jax jao ja5 jaV ja8 jae jag jaf jaN jaC jaP jaw jaI jbG jbg jbB jan jbD jbu jar jaL jah jaB jaa jaz jaG jab ja2 a0_s jaq jai jaO jaA jat jau jav jaj jas jaJ jak jad jay jac a0_s cyI f0_s ja5 cyI jbv jbu cyI jbZ jbB cyI jca jbG cyI jcu jbg cyI jbR) → va_S A s.heap H locs → lv_has ls 4 [(0, .ref a0), (1, .int l1), (2, .int l2), (3, .int l3)] → K4 jbZ jca l1 l2 l3 → W p l e (headSpec wsX11_rangeOf ({ frames := 6, cells := 0, slots := 0, locals := 137 })).room s m args below meth c H locs 0 0 (MQ below (va_Qi (fun (r : Int32) (u : NI × NI) => Q r u.1 u.2) (cB (dC, dI) (kT cyB cyI cyJ cyP) A (fun u : NI × NI => ((qze a0 jaX jaF jaD ja7 jby jbf jaM jaY jap jaK jal jam jax jao ja5 jaV ja8 jae jag jaf jaN jaC jaP jaw jaI jbG jbg jbB jan jbD jbu jar jaL jah jaB jaa jaz jaG jab ja2 a0_s jaq jai jaO jaA jat jau jav jaj jas jaJ jak jad jay jac a0_s cyI f0_s ja5 cyI jbv jbu cyI u.1 jbB cyI u.2 jbG cyI jcu jbg cyI jbR) : va_W))) A) args s 0 0 A) (F0 m 4 ls [])) (C0 : cfx p s m args meth c cX11_rangeOf (some .int) wsX11_rangeOf RX11 4 A (dC, dI) (kT cyB cyI cyJ cyP)) : ∀ (H : Heap) (locs : List Loc) (ls : Array Slot) (jbZ jca : NI) (l1 l3 s0 s1 : Int32), va_P (dC, dI) vwCl (qze a0 jaX jaF jaD ja7 jby jbf jaM jaY jap jaK jal jam jax jao ja5 jaV ja8 jae jag jaf jaN jaC jaP jaw jaI jbG jbg jbB jan jbD jbu jar jaL jah jaB jaa jaz jaG jab ja2 a0_s jaq jai jaO jaA jat jau jav jaj jas jaJ jak jad jay jac a0_s cyI f0_s ja5 cyI jbv jbu cyI jbZ jbB cyI jca jbG cyI jcu jbg cyI jbR) H → va_D A (qze a0 jaX jaF jaD ja7 jby jbf jaM jaY jap jaK jal jam jax jao ja5 jaV ja8 jae jag jaf jaN jaC jaP jaw jaI jbG jbg jbB jan jbD jbu jar jaL jah jaB jaa jaz jaG jab ja2 a0_s jaq jai jaO jaA jat jau jav jaj jas jaJ jak jad jay jac a0_s cyI f0_s ja5 cyI jbv jbu cyI jbZ jbB cyI jca jbG cyI jcu jbg cyI jbR) → va_S A s.heap H locs → lv_has ls 4 [(0, .ref a0), (1, .int l1), (3, .int l3)] → qJW jaN jaC jbD f0_s jbv jcu jbR Q K4 jbZ jca l1 l3 s0 s1 → W p l e (headSpec wsX11_rangeOf ({ frames := 6, cells := 0, slots := 0, locals := 137 })).room s m args below meth c H locs 0 0 (MQ below (va_Qi (fun (r : Int32) (u : NI × NI) => Q r u.1 u.2) (cB (dC, dI) (kT cyB cyI cyJ cyP) A (fun u : NI × NI => ((qze a0 jaX jaF jaD ja7 jby jbf jaM jaY jap jaK jal jam jax jao ja5 jaV ja8 jae jag jaf jaN jaC jaP jaw jaI jbG jbg jbB jan jbD jbu jar jaL jah jaB jaa jaz jaG jab ja2 a0_s jaq jai jaO jaA jat jau jav jaj jas jaJ jak jad jay jac a0_s cyI f0_s ja5 cyI jbv jbu cyI u.1 jbB cyI u.2 jbG cyI jcu jbg cyI jbR) : va_W))) A) args s 0 0 A) (F0 m 29 ls [.int s1, .int s0]) := by
  obtain ⟨hx, hb, hr, hts, hown, hlocks, hml, hA, hK, hNw⟩ := id C0
  intro H locs ls jbZ jca l1 l3 s0 s1 hP hD hS hl hw
  refine lv_ior hx hb (qaa qpz 3 rfl) ?_
  refine lv_topi (fun x6 ex6 => ?_)
  have hw := hw x6 ex6
  refine lv_istore_n (lv' := [(2, .int x6), (0, .ref a0), (1, .int l1), (3, .int l3)]) hx hb (qaa qpz 4 rfl) rfl hl (by decide) rfl (fun ls hl => ?_)
  obtain ⟨x7, ex7⟩ : ∃ y : Int32, y = l3 + 1 := ⟨_, rfl⟩
  have hw := hw x7 ex7
  refine lv_iinc (v := x7) (lv' := [(3, .int x7), (2, .int x6), (0, .ref a0), (1, .int l1)]) hx hb (qaa qpz 5 rfl) hl (k := 3) rfl (by rw [ex7]; rfl) (by decide) rfl (fun ls hl => ?_)
  refine lv_goto (tgt := 4) hx hb (qaa qpz 6 rfl) (by decide) ?_
  exact hK4 _ _ _ jbZ jca l1 x6 x7 hP hD hS (lv_sub hl [2, 3, 1, 0] rfl) hw
set_option maxHeartbeats 4000000 in
set_option maxRecDepth 100000 in
theorem qatk {p : Program} {l : Launch} {e : Env} {s : State} {m : MethodId} {args : Array Value} {below : List Frame} {meth : Method} {c : Code} {A : Nat → Prop} (dC : Nat → ClassId) (dI : Nat → Nat → Nat) (cyB cyI cyJ cyP : ClassId) (a0 a0_s ja5 jbu jbB jbG jbg : Nat) (jaX jaF jaD ja7 jby jbf jaM jaY jap jaK jal jam jax jao jaV ja8 jae jag jaf jaP jaw jaI jan jar jaL jah jaB jaa jaz jaG jab ja2 jaq jai jaO jaA jat jau jav jaj jas jaJ jak jad jay jac : Value) (jaN jaC jbD : Int32) (f0_s jbv jcu jbR : NI) (Q : Int32 → NI → NI → Prop) (C0 : cfx p s m args meth c cX11_rangeOf (some .int) wsX11_rangeOf RX11 4 A (dC, dI) (kT cyB cyI cyJ cyP)) : ∀ (n : Nat) (H : Heap) (locs : List Loc) (ls : Array Slot) (jbZ jca : NI) (l1 l2 l3 : Int32), va_P (dC, dI) vwCl (qze a0 jaX jaF jaD ja7 jby jbf jaM jaY jap jaK jal jam jax jao ja5 jaV ja8 jae jag jaf jaN jaC jaP jaw jaI jbG jbg jbB jan jbD jbu jar jaL jah jaB jaa jaz jaG jab ja2 a0_s jaq jai jaO jaA jat jau jav jaj jas jaJ jak jad jay jac a0_s cyI f0_s ja5 cyI jbv jbu cyI jbZ jbB cyI jca jbG cyI jcu jbg cyI jbR) H → va_D A (qze a0 jaX jaF jaD ja7 jby jbf jaM jaY jap jaK jal jam jax jao ja5 jaV ja8 jae jag jaf jaN jaC jaP jaw jaI jbG jbg jbB jan jbD jbu jar jaL jah jaB jaa jaz jaG jab ja2 a0_s jaq jai jaO jaA jat jau jav jaj jas jaJ jak jad jay jac a0_s cyI f0_s ja5 cyI jbv jbu cyI jbZ jbB cyI jca jbG cyI jcu jbg cyI jbR) → va_S A s.heap H locs → lv_has ls 4 [(0, .ref a0), (1, .int l1), (2, .int l2), (3, .int l3)] → quy jaN jaC jbD f0_s jbv jcu jbR Q n jbZ jca l1 l2 l3 → W p l e (headSpec wsX11_rangeOf ({ frames := 6, cells := 0, slots := 0, locals := 137 })).room s m args below meth c H locs 0 0 (MQ below (va_Qi (fun (r : Int32) (u : NI × NI) => Q r u.1 u.2) (cB (dC, dI) (kT cyB cyI cyJ cyP) A (fun u : NI × NI => ((qze a0 jaX jaF jaD ja7 jby jbf jaM jaY jap jaK jal jam jax jao ja5 jaV ja8 jae jag jaf jaN jaC jaP jaw jaI jbG jbg jbB jan jbD jbu jar jaL jah jaB jaa jaz jaG jab ja2 a0_s jaq jai jaO jaA jat jau jav jaj jas jaJ jak jad jay jac a0_s cyI f0_s ja5 cyI jbv jbu cyI u.1 jbB cyI u.2 jbG cyI jcu jbg cyI jbR) : va_W))) A) args s 0 0 A) (F0 m 4 ls []) := by
  obtain ⟨hx, hb, hr, hts, hown, hlocks, hml, hA, hK, hNw⟩ := id C0
  intro n
  induction n with
  | zero => intro H locs ls jbZ jca l1 l2 l3 hP hD hS hl hw; exact False.elim hw
  | succ n ih =>
    intro H locs ls jbZ jca l1 l2 l3 hP hD hS hl hw
    refine lv_iload_n hx hb (qaa qfw 4 rfl) rfl (lv_at hl 3 rfl) ?_
    refine lv_aload_n hx hb (qaa qfw 5 rfl) rfl (lv_at hl 0 rfl) ?_
    refine va_get (D := (dC, dI)) (ci := 11) (v := .int jaN) (C := RX11) (T := TX11) (N := 55) hx hb hts qado hown hK hP 0 rfl rfl 20 (by decide) (hts _ q8L) (fun _ h9 => h9) rfl (qaa qfw 6 rfl) ?_
    refine lv_icmp_ge (tgt := 37) hx hb (qaa qfw 7 rfl) (by decide) (fun c1 => ?_) (fun c1 => ?_)
    · have hw := hw.1 c1
      refine lv_iload_n hx hb (qaa qpz 7 rfl) rfl (lv_at hl 2 rfl) ?_
      exact ((W.iret (v := l2) hx hb hr (fun t ht hW => ⟨⟨l2, (jbZ, jca), rfl, hw, by rw [ht]; exact hP, va_K.moved hW.alike hK, hD⟩, hS.F ht⟩) hS.2.2 (qaa qpz 8 rfl)))
    · have hw := hw.2 c1
      refine lv_iload_n hx hb (qaa qfw 8 rfl) rfl (lv_at hl 2 rfl) ?_
      refine lv_aload_n hx hb (qaa qfw 9 rfl) rfl (lv_at hl 0 rfl) ?_
      refine lv_iload_n hx hb (qaa qfw 10 rfl) rfl (lv_at hl 1 rfl) ?_
      refine lv_iload_n hx hb (qaa qfw 11 rfl) rfl (lv_at hl 3 rfl) ?_
      obtain ⟨hCc, hPc, hDc, hFc⟩ := qac (ws' := (qze a0 jaX jaF jaD ja7 jby jbf jaM jaY jap jaK jal jam jax jao ja5 jaV ja8 jae jag jaf jaN jaC jaP jaw jaI jbG jbg jbB jan jbD jbu jar jaL jah jaB jaa jaz jaG jab ja2 a0_s jaq jai jaO jaA jat jau jav jaj jas jaJ jak jad jay jac a0_s cyI f0_s ja5 cyI jbv jbu cyI jbZ jbB cyI jca jbG cyI jcu jbg cyI jbR)) hP hD hS hA [0, 1, 2, 3, 4, 5, 6] (by decide +kernel) rfl
      refine va_calli (va_runV (As := [.int l1, .int l3]) (rest := [.int l2]) ⟨hx, hb, hml, hown, hts⟩ (qTc l dC dI cyB cyI cyJ cyP a0 a0_s ja5 jbu jbB jbG jbg H.size (jaX) (jaF) (jaD) (ja7) (jby) (jbf) (jaM) (jaY) (jap) (jaK) (jal) (jam) (jax) (jao) (jaV) (ja8) (jae) (jag) (jaf) (.int jaN) (jaP) (jaw) (jaI) (jan) (jar) (jaL) (jah) (jaB) (jaa) (jaz) (jaG) (jab) (ja2) (jaq) (jai) (jaO) (jaA) (jat) (jau) (jav) (jaj) (jas) (jaJ) (jak) (jad) (jay) (jac) jaC jbD f0_s jbv jcu jbR jbZ jca l1 l3 hw) (cwV 2 hts gX11_rangeOf_X11_canLeap rfl rfl rfl (by decide +kernel) ⟨nbq rfl, nbq rfl⟩) ⟨qab, va_recv (q := (RX11, TX11, 55)) hK hPc (ci := 11) (q0 := 0) rfl rfl, qae hPc hK hDc hNw⟩ rfl rfl hl.1 rfl (lv_room (nbq rfl)) (qaa qfw 12 rfl) ⟨nbq rfl, nbq rfl⟩) hS (fun q _ h => hFc q h) hFc (fun r4 u t H1 locs ht hvm hw hB hz1 hk1 hS => ?_)
      obtain ⟨f2, f3⟩ := u
      obtain ⟨hP1, hK1, hD1⟩ := hB
      rw [ht] at hP1
      obtain ⟨hP, hD⟩ := qah (wr := []) (w1 := (qze a0 jaX jaF jaD ja7 jby jbf jaM jaY jap jaK jal jam jax jao ja5 jaV ja8 jae jag jaf jaN jaC jaP jaw jaI jbG jbg jbB jan jbD jbu jar jaL jah jaB jaa jaz jaG jab ja2 a0_s jaq jai jaO jaA jat jau jav jaj jas jaJ jak jad jay jac a0_s cyI f0_s ja5 cyI jbv jbu cyI f2 jbB cyI f3 jbG cyI jcu jbg cyI jbR)) (wn := (qze a0 jaX jaF jaD ja7 jby jbf jaM jaY jap jaK jal jam jax jao ja5 jaV ja8 jae jag jaf jaN jaC jaP jaw jaI jbG jbg jbB jan jbD jbu jar jaL jah jaB jaa jaz jaG jab ja2 a0_s jaq jai jaO jaA jat jau jav jaj jas jaJ jak jad jay jac a0_s cyI f0_s ja5 cyI jbv jbu cyI f2 jbB cyI f3 jbG cyI jcu jbg cyI jbR)) hP hD [0, 1, 2, 3, 4, 5, 6] [] hCc rfl (by decide +kernel) (by decide +kernel) rfl hk1 hFc hP1 hD1
      generalize H1 = H at hP hS ⊢
      refine lv_if_eq (tgt := 28) hx hb (qaa qfw 13 rfl) (by decide) (fun c5 => ?_) (fun c5 => ?_)
      · have hw := hw.1 c5
        refine lv_iconst (v := 0) hx hb (qaa qpz 2 rfl) (by decide) ?_
        exact qVR dC dI cyB cyI cyJ cyP a0 a0_s ja5 jbu jbB jbG jbg jaX jaF jaD ja7 jby jbf jaM jaY jap jaK jal jam jax jao jaV ja8 jae jag jaf jaP jaw jaI jan jar jaL jah jaB jaa jaz jaG jab ja2 jaq jai jaO jaA jat jau jav jaj jas jaJ jak jad jay jac jaN jaC jbD f0_s jbv jcu jbR Q (quy jaN jaC jbD f0_s jbv jcu jbR Q n) ih C0 _ _ _ f2 f3 l1 l3 l2 0 hP hD hS (lv_sub hl [0, 1, 3] rfl) hw
      · have hw := hw.2 c5
        refine lv_iconst (v := 1) hx hb (qaa qfw 14 rfl) (by decide) ?_
        refine lv_iload_n hx hb (qaa qfw 15 rfl) rfl (lv_at hl 3 rfl) ?_
        refine lv_ishl hx hb (qaa qpz 0 rfl) ?_
        refine lv_goto (tgt := 29) hx hb (qaa qpz 1 rfl) (by decide) ?_
        exact qVR dC dI cyB cyI cyJ cyP a0 a0_s ja5 jbu jbB jbG jbg jaX jaF jaD ja7 jby jbf jaM jaY jap jaK jal jam jax jao jaV ja8 jae jag jaf jaP jaw jaI jan jar jaL jah jaB jaa jaz jaG jab ja2 jaq jai jaO jaA jat jau jav jaj jas jaJ jak jad jay jac jaN jaC jbD f0_s jbv jcu jbR Q (quy jaN jaC jbD f0_s jbv jcu jbR Q n) ih C0 _ _ _ f2 f3 l1 l3 l2 (1 <<< (l3 &&& 31)) hP hD hS (lv_sub hl [0, 1, 3] rfl) hw
set_option maxHeartbeats 4000000 in
set_option maxRecDepth 100000 in
theorem q7K (l : Launch) (dC : Nat → ClassId) (dI : Nat → Nat → Nat) (cyB cyI cyJ cyP : ClassId) (a0 a0_s ja5 jbu jbB jbG jbg sz : Nat) (jaX jaF jaD ja7 jby jbf jaM jaY jap jaK jal jam jax jao jaV ja8 jae jag jaf jaP jaw jaI jan jar jaL jah jaB jaa jaz jaG jab ja2 jaq jai jaO jaA jat jau jav jaj jas jaJ jak jad jay jac : Value) (jaN jaC jbD : Int32) (f0_s jbv jcu jbR jbZ jca : NI) (p1 : Int32) {Q : Int32 → NI → NI → Prop} (hw : qKx jaN jaC jbD f0_s jbv jcu jbR jbZ jca p1 Q) : Met l yX11_rangeOf wsX11_rangeOf ({ frames := 6, cells := 0, slots := 0, locals := 137 }) (va_Pc [.ref a0, .int p1] (cPc (dC, dI) (kT cyB cyI cyJ cyP) (qze a0 jaX jaF jaD ja7 jby jbf jaM jaY jap jaK jal jam jax jao ja5 jaV ja8 jae jag jaf jaN jaC jaP jaw jaI jbG jbg jbB jan jbD jbu jar jaL jah jaB jaa jaz jaG jab ja2 a0_s jaq jai jaO jaA jat jau jav jaj jas jaJ jak jad jay jac a0_s cyI f0_s ja5 cyI jbv jbu cyI jbZ jbB cyI jca jbG cyI jcu jbg cyI jbR) sz)) (va_Qi (fun (r : Int32) (u : NI × NI) => Q r u.1 u.2) (cB (dC, dI) (kT cyB cyI cyJ cyP) (va_A (qze a0 jaX jaF jaD ja7 jby jbf jaM jaY jap jaK jal jam jax jao ja5 jaV ja8 jae jag jaf jaN jaC jaP jaw jaI jbG jbg jbB jan jbD jbu jar jaL jah jaB jaa jaz jaG jab ja2 a0_s jaq jai jaO jaA jat jau jav jaj jas jaJ jak jad jay jac a0_s cyI f0_s ja5 cyI jbv jbu cyI jbZ jbB cyI jca jbG cyI jcu jbg cyI jbR) sz) (fun u : NI × NI => ((qze a0 jaX jaF jaD ja7 jby jbf jaM jaY jap jaK jal jam jax jao ja5 jaV ja8 jae jag jaf jaN jaC jaP jaw jaI jbG jbg jbB jan jbD jbu jar jaL jah jaB jaa jaz jaG jab ja2 a0_s jaq jai jaO jaA jat jau jav jaj jas jaJ jak jad jay jac a0_s cyI f0_s ja5 cyI jbv jbu cyI u.1 jbB cyI u.2 jbG cyI jcu jbg cyI jbR) : va_W))) (va_A (qze a0 jaX jaF jaD ja7 jby jbf jaM jaY jap jaK jal jam jax jao ja5 jaV ja8 jae jag jaf jaN jaC jaP jaw jaI jbG jbg jbB jan jbD jbu jar jaL jah jaB jaa jaz jaG jab ja2 a0_s jaq jai jaO jaA jat jau jav jaj jas jaJ jak jad jay jac a0_s cyI f0_s ja5 cyI jbv jbu cyI jbZ jbB cyI jca jbG cyI jcu jbg cyI jbR) sz)) 0 0 (va_A (qze a0 jaX jaF jaD ja7 jby jbf jaM jaY jap jaK jal jam jax jao ja5 jaV ja8 jae jag jaf jaN jaC jaP jaw jaI jbG jbg jbB jan jbD jbu jar jaL jah jaB jaa jaz jaG jab ja2 a0_s jaq jai jaO jaA jat jau jav jaj jas jaJ jak jad jay jac a0_s cyI f0_s ja5 cyI jbv jbu cyI jbZ jbB cyI jca jbG cyI jcu jbg cyI jbR) sz) := by
  refine Met.ofW (cc := cX11_rangeOf) (maxL := 4) (ret := (some .int)) (by decide) rfl ?_
  intro p e s m args below meth c s₁ B hml hv
  obtain ⟨rfl, hsz, hP, hK, hD0, hNw⟩ := hv
  have hx := B.exec
  have hb := B.bytes
  have hr := B.returns
  have hts := atoms_spec (ws := wsX11_rangeOf) B.pre
  have hown : s.vm.findClass RX11 = some m.cls := findClass_of_methodNamed B.named
  have hlocks := B.notSynchronized
  subst hsz
  have hD := hD0.self (sz := s.heap.size)
  generalize hAe : va_A (qze a0 jaX jaF jaD ja7 jby jbf jaM jaY jap jaK jal jam jax jao ja5 jaV ja8 jae jag jaf jaN jaC jaP jaw jaI jbG jbg jbB jan jbD jbu jar jaL jah jaB jaa jaz jaG jab ja2 a0_s jaq jai jaO jaA jat jau jav jaj jas jaJ jak jad jay jac a0_s cyI f0_s ja5 cyI jbv jbu cyI jbZ jbB cyI jca jbG cyI jcu jbg cyI jbR) s.heap.size = A at hD ⊢
  have hA : ∀ q : Nat, s.heap.size ≤ q → A q := fun q h => by rw [← hAe]; exact Or.inr h
  have hS : va_S A s.heap s.heap [] := va_S.rf
  have hP : va_P (dC, dI) vwCl (qze a0 jaX jaF jaD ja7 jby jbf jaM jaY jap jaK jal jam jax jao ja5 jaV ja8 jae jag jaf jaN jaC jaP jaw jaI jbG jbg jbB jan jbD jbu jar jaL jah jaB jaa jaz jaG jab ja2 a0_s jaq jai jaO jaA jat jau jav jaj jas jaJ jak jad jay jac a0_s cyI f0_s ja5 cyI jbv jbu cyI jbZ jbB cyI jca jbG cyI jcu jbg cyI jbR) s.heap := hP
  have hl := lv_entry ([.ref a0, .int p1]) (n := 4) (nbq rfl)
  rw [lg_entry_eq]
  generalize (lg_sl ([.ref a0, .int p1]) ++ List.replicate (4 - (lg_sl ([.ref a0, .int p1])).length) Slot.unset).toArray = ls at hl ⊢
  have hl : lv_has ls 4 [(0, .ref a0), (1, .int p1)] := hl
  have C0 : cfx p s m _ meth c cX11_rangeOf (some .int) wsX11_rangeOf RX11 4 A (dC, dI) (kT cyB cyI cyJ cyP) := ⟨hx, hb, hr, hts, hown, hlocks, hml, hA, hK, hNw⟩
  clear hAe
  obtain ⟨H, hH⟩ : ∃ H, H = s.heap := ⟨_, rfl⟩
  rw [← hH] at hP ⊢
  have hS : va_S A s.heap H [] := by rw [hH]; exact va_S.rf
  have hS := hS
  refine lv_iconst (v := 0) hx hb (qaa qfw 0 rfl) (by decide) ?_
  refine lv_istore_n (lv' := [(2, .int 0), (0, .ref a0), (1, .int p1)]) hx hb (qaa qfw 1 rfl) rfl hl (by decide) rfl (fun ls hl => ?_)
  refine lv_iconst (v := 0) hx hb (qaa qfw 2 rfl) (by decide) ?_
  refine lv_istore_n (lv' := [(3, .int 0), (2, .int 0), (0, .ref a0), (1, .int p1)]) hx hb (qaa qfw 3 rfl) rfl hl (by decide) rfl (fun ls hl => ?_)
  obtain ⟨n9, hw⟩ := hw
  exact qatk dC dI cyB cyI cyJ cyP a0 a0_s ja5 jbu jbB jbG jbg jaX jaF jaD ja7 jby jbf jaM jaY jap jaK jal jam jax jao jaV ja8 jae jag jaf jaP jaw jaI jan jar jaL jah jaB jaa jaz jaG jab ja2 jaq jai jaO jaA jat jau jav jaj jas jaJ jak jad jay jac jaN jaC jbD f0_s jbv jcu jbR Q C0 n9 _ _ _ jbZ jca p1 0 0 hP hD hS (lv_sub hl [2, 3, 1, 0] rfl) hw
theorem q67 : ∀ w ∈ u_ws RX11 TX11 55, w ∈ wsX11_safeForms := uiM qHK qga (by decide +kernel)
theorem q0O : (.fieldLink RX11 166 "MarchHaresModel" "forms" "I" : Cond) ∈ wsX11_safeForms := qHK 519 (by decide +kernel)
set_option maxHeartbeats 4000000 in
set_option maxRecDepth 100000 in
theorem qPc {p : Program} {l : Launch} {e : Env} {s : State} {m : MethodId} {args : Array Value} {below : List Frame} {meth : Method} {c : Code} {A : Nat → Prop} (dC : Nat → ClassId) (dI : Nat → Nat → Nat) (cyB cyI cyJ cyP : ClassId) (a0 ja5 jbJ : Nat) (jaX jaF jaD ja7 jby jbf jaM jaY jap jaK jal jam jax jao jaV jae jag jaf ja4 jaw jaI jaZ jaH jaS jan jaU jaE jar jaL jah jaB jaa jaz jaG jab ja2 z0_s jaq jai jaO jaA jat jau jav jaj jas jaJ jak jad jay jac : Value) (jaN jbw : Int32) (jbv jcx : NI) (Q : Int32 → Prop) (K4 : Int32 → Int32 → Prop) (hK4 : ∀ (H : Heap) (locs : List Loc) (ls : Array Slot) (l1 l2 : Int32), va_P (dC, dI) vwCl (qzH a0 jaX jaF jaD ja7 jby jbf jaM jaY jap jaK jal jam jax jao ja5 jaV jbJ jae jag jaf jaN ja4 jbw jaw jaI jaZ jaH jaS jan jaU jaE jar jaL jah jaB jaa jaz jaG jab ja2 z0_s jaq jai jaO jaA jat jau jav jaj jas jaJ jak jad jay jac ja5 cyI jbv jbJ cyI jcx) H → va_D A (qzH a0 jaX jaF jaD ja7 jby jbf jaM jaY jap jaK jal jam jax jao ja5 jaV jbJ jae jag jaf jaN ja4 jbw jaw jaI jaZ jaH jaS jan jaU jaE jar jaL jah jaB jaa jaz jaG jab ja2 z0_s jaq jai jaO jaA jat jau jav jaj jas jaJ jak jad jay jac ja5 cyI jbv jbJ cyI jcx) → va_S A s.heap H locs → lv_has ls 3 [(0, .ref a0), (1, .int l1), (2, .int l2)] → K4 l1 l2 → W p l e (headSpec wsX11_safeForms ({ frames := 2, cells := 0, slots := 0, locals := 42 })).room s m args below meth c H locs 0 0 (MQ below (va_Qi (fun (r : Int32) (_ : Unit) => Q r ) (cB (dC, dI) (kT cyB cyI cyJ cyP) A (fun u : Unit => ((qzH a0 jaX jaF jaD ja7 jby jbf jaM jaY jap jaK jal jam jax jao ja5 jaV jbJ jae jag jaf jaN ja4 jbw jaw jaI jaZ jaH jaS jan jaU jaE jar jaL jah jaB jaa jaz jaG jab ja2 z0_s jaq jai jaO jaA jat jau jav jaj jas jaJ jak jad jay jac ja5 cyI jbv jbJ cyI jcx) : va_W))) A) args s 0 0 A) (F0 m 4 ls [])) (C0 : cfx p s m args meth c cX11_safeForms (some .int) wsX11_safeForms RX11 3 A (dC, dI) (kT cyB cyI cyJ cyP)) : ∀ (H : Heap) (locs : List Loc) (ls : Array Slot) (l2 s0 s1 : Int32), va_P (dC, dI) vwCl (qzH a0 jaX jaF jaD ja7 jby jbf jaM jaY jap jaK jal jam jax jao ja5 jaV jbJ jae jag jaf jaN ja4 jbw jaw jaI jaZ jaH jaS jan jaU jaE jar jaL jah jaB jaa jaz jaG jab ja2 z0_s jaq jai jaO jaA jat jau jav jaj jas jaJ jak jad jay jac ja5 cyI jbv jbJ cyI jcx) H → va_D A (qzH a0 jaX jaF jaD ja7 jby jbf jaM jaY jap jaK jal jam jax jao ja5 jaV jbJ jae jag jaf jaN ja4 jbw jaw jaI jaZ jaH jaS jan jaU jaE jar jaL jah jaB jaa jaz jaG jab ja2 z0_s jaq jai jaO jaA jat jau jav jaj jas jaJ jak jad jay jac ja5 cyI jbv jbJ cyI jcx) → va_S A s.heap H locs → lv_has ls 3 [(0, .ref a0), (2, .int l2)] → qFI jaN jbw jbv jcx Q K4 l2 s0 s1 → W p l e (headSpec wsX11_safeForms ({ frames := 2, cells := 0, slots := 0, locals := 42 })).room s m args below meth c H locs 0 0 (MQ below (va_Qi (fun (r : Int32) (_ : Unit) => Q r ) (cB (dC, dI) (kT cyB cyI cyJ cyP) A (fun u : Unit => ((qzH a0 jaX jaF jaD ja7 jby jbf jaM jaY jap jaK jal jam jax jao ja5 jaV jbJ jae jag jaf jaN ja4 jbw jaw jaI jaZ jaH jaS jan jaU jaE jar jaL jah jaB jaa jaz jaG jab ja2 z0_s jaq jai jaO jaA jat jau jav jaj jas jaJ jak jad jay jac ja5 cyI jbv jbJ cyI jcx) : va_W))) A) args s 0 0 A) (F0 m 28 ls [.int s1, .int s0]) := by
  obtain ⟨hx, hb, hr, hts, hown, hlocks, hml, hA, hK, hNw⟩ := id C0
  intro H locs ls l2 s0 s1 hP hD hS hl hw
  refine lv_ior hx hb (qaa qpa 2 rfl) ?_
  refine lv_topi (fun x4 ex4 => ?_)
  have hw := hw x4 ex4
  refine lv_istore_n (lv' := [(1, .int x4), (0, .ref a0), (2, .int l2)]) hx hb (qaa qpa 3 rfl) rfl hl (by decide) rfl (fun ls hl => ?_)
  obtain ⟨x5, ex5⟩ : ∃ y : Int32, y = l2 + 1 := ⟨_, rfl⟩
  have hw := hw x5 ex5
  refine lv_iinc (v := x5) (lv' := [(2, .int x5), (1, .int x4), (0, .ref a0)]) hx hb (qaa qpa 4 rfl) hl (k := 2) rfl (by rw [ex5]; rfl) (by decide) rfl (fun ls hl => ?_)
  refine lv_goto (tgt := 4) hx hb (qaa qpa 5 rfl) (by decide) ?_
  exact hK4 _ _ _ x4 x5 hP hD hS (lv_sub hl [2, 1, 0] rfl) hw
set_option maxHeartbeats 4000000 in
set_option maxRecDepth 100000 in
theorem qaeD {p : Program} {l : Launch} {e : Env} {s : State} {m : MethodId} {args : Array Value} {below : List Frame} {meth : Method} {c : Code} {A : Nat → Prop} (dC : Nat → ClassId) (dI : Nat → Nat → Nat) (cyB cyI cyJ cyP : ClassId) (a0 ja5 jbJ : Nat) (jaX jaF jaD ja7 jby jbf jaM jaY jap jaK jal jam jax jao jaV jae jag jaf ja4 jaw jaI jaZ jaH jaS jan jaU jaE jar jaL jah jaB jaa jaz jaG jab ja2 z0_s jaq jai jaO jaA jat jau jav jaj jas jaJ jak jad jay jac : Value) (jaN jbw : Int32) (jbv jcx : NI) (Q : Int32 → Prop) (C0 : cfx p s m args meth c cX11_safeForms (some .int) wsX11_safeForms RX11 3 A (dC, dI) (kT cyB cyI cyJ cyP)) : ∀ (n : Nat) (H : Heap) (locs : List Loc) (ls : Array Slot) (l1 l2 : Int32), va_P (dC, dI) vwCl (qzH a0 jaX jaF jaD ja7 jby jbf jaM jaY jap jaK jal jam jax jao ja5 jaV jbJ jae jag jaf jaN ja4 jbw jaw jaI jaZ jaH jaS jan jaU jaE jar jaL jah jaB jaa jaz jaG jab ja2 z0_s jaq jai jaO jaA jat jau jav jaj jas jaJ jak jad jay jac ja5 cyI jbv jbJ cyI jcx) H → va_D A (qzH a0 jaX jaF jaD ja7 jby jbf jaM jaY jap jaK jal jam jax jao ja5 jaV jbJ jae jag jaf jaN ja4 jbw jaw jaI jaZ jaH jaS jan jaU jaE jar jaL jah jaB jaa jaz jaG jab ja2 z0_s jaq jai jaO jaA jat jau jav jaj jas jaJ jak jad jay jac ja5 cyI jbv jbJ cyI jcx) → va_S A s.heap H locs → lv_has ls 3 [(0, .ref a0), (1, .int l1), (2, .int l2)] → qr3 jaN jbw jbv jcx Q n l1 l2 → W p l e (headSpec wsX11_safeForms ({ frames := 2, cells := 0, slots := 0, locals := 42 })).room s m args below meth c H locs 0 0 (MQ below (va_Qi (fun (r : Int32) (_ : Unit) => Q r ) (cB (dC, dI) (kT cyB cyI cyJ cyP) A (fun u : Unit => ((qzH a0 jaX jaF jaD ja7 jby jbf jaM jaY jap jaK jal jam jax jao ja5 jaV jbJ jae jag jaf jaN ja4 jbw jaw jaI jaZ jaH jaS jan jaU jaE jar jaL jah jaB jaa jaz jaG jab ja2 z0_s jaq jai jaO jaA jat jau jav jaj jas jaJ jak jad jay jac ja5 cyI jbv jbJ cyI jcx) : va_W))) A) args s 0 0 A) (F0 m 4 ls []) := by
  obtain ⟨hx, hb, hr, hts, hown, hlocks, hml, hA, hK, hNw⟩ := id C0
  intro n
  induction n with
  | zero => intro H locs ls l1 l2 hP hD hS hl hw; exact False.elim hw
  | succ n ih =>
    intro H locs ls l1 l2 hP hD hS hl hw
    refine lv_iload_n hx hb (qaa qdz 4 rfl) rfl (lv_at hl 2 rfl) ?_
    refine lv_aload_n hx hb (qaa qdz 5 rfl) rfl (lv_at hl 0 rfl) ?_
    refine va_get (D := (dC, dI)) (ci := 11) (v := .int jaN) (C := RX11) (T := TX11) (N := 55) hx hb hts q67 hown hK hP 0 rfl rfl 20 (by decide) (hts _ q0O) (fun _ h9 => h9) rfl (qaa qdz 6 rfl) ?_
    refine lv_icmp_ge (tgt := 36) hx hb (qaa qdz 7 rfl) (by decide) (fun c1 => ?_) (fun c1 => ?_)
    · have hw := hw.1 c1
      refine lv_iload_n hx hb (qaa qpa 6 rfl) rfl (lv_at hl 1 rfl) ?_
      exact ((W.iret (v := l1) hx hb hr (fun t ht hW => ⟨⟨l1, (), rfl, hw, by rw [ht]; exact hP, va_K.moved hW.alike hK, hD⟩, hS.F ht⟩) hS.2.2 (qaa qpa 7 rfl)))
    · have hw := hw.2 c1
      refine lv_iload_n hx hb (qaa qdz 8 rfl) rfl (lv_at hl 1 rfl) ?_
      refine lv_aload_n hx hb (qaa qdz 9 rfl) rfl (lv_at hl 0 rfl) ?_
      refine lv_iload_n hx hb (qaa qdz 10 rfl) rfl (lv_at hl 2 rfl) ?_
      obtain ⟨hCc, hPc, hDc, hFc⟩ := qac (ws' := (qzH a0 jaX jaF jaD ja7 jby jbf jaM jaY jap jaK jal jam jax jao ja5 jaV jbJ jae jag jaf jaN ja4 jbw jaw jaI jaZ jaH jaS jan jaU jaE jar jaL jah jaB jaa jaz jaG jab ja2 z0_s jaq jai jaO jaA jat jau jav jaj jas jaJ jak jad jay jac ja5 cyI jbv jbJ cyI jcx)) hP hD hS hA [0, 1, 2] (by decide +kernel) rfl
      refine va_calli (va_runV (As := [.int l2]) (rest := [.int l1]) ⟨hx, hb, hml, hown, hts⟩ (qOn l dC dI cyB cyI cyJ cyP a0 ja5 jbJ H.size (jaX) (jaF) (jaD) (ja7) (jby) (jbf) (jaM) (jaY) (jap) (jaK) (jal) (jam) (jax) (jao) (jaV) (jae) (jag) (jaf) (.int jaN) (ja4) (jaw) (jaI) (jaZ) (jaH) (jaS) (jan) (jaU) (jaE) (jar) (jaL) (jah) (jaB) (jaa) (jaz) (jaG) (jab) (ja2) (z0_s) (jaq) (jai) (jaO) (jaA) (jat) (jau) (jav) (jaj) (jas) (jaJ) (jak) (jad) (jay) (jac) jbw jbv jcx l2 hw) (cwV 1 hts gX11_safeForms_X11_isSafe rfl rfl rfl (by decide +kernel) ⟨nbq rfl, nbq rfl⟩) ⟨qab, va_recv (q := (RX11, TX11, 55)) hK hPc (ci := 11) (q0 := 0) rfl rfl, qae hPc hK hDc hNw⟩ rfl rfl hl.1 rfl (lv_room (nbq rfl)) (qaa qdz 11 rfl) ⟨nbq rfl, nbq rfl⟩) hS (fun q _ h => hFc q h) hFc (fun r2 u t H1 locs ht hvm hw hB hz1 hk1 hS => ?_)
      obtain ⟨hP1, hK1, hD1⟩ := hB
      rw [ht] at hP1
      obtain ⟨hP, hD⟩ := qah (wr := []) (w1 := (qzH a0 jaX jaF jaD ja7 jby jbf jaM jaY jap jaK jal jam jax jao ja5 jaV jbJ jae jag jaf jaN ja4 jbw jaw jaI jaZ jaH jaS jan jaU jaE jar jaL jah jaB jaa jaz jaG jab ja2 z0_s jaq jai jaO jaA jat jau jav jaj jas jaJ jak jad jay jac ja5 cyI jbv jbJ cyI jcx)) (wn := (qzH a0 jaX jaF jaD ja7 jby jbf jaM jaY jap jaK jal jam jax jao ja5 jaV jbJ jae jag jaf jaN ja4 jbw jaw jaI jaZ jaH jaS jan jaU jaE jar jaL jah jaB jaa jaz jaG jab ja2 z0_s jaq jai jaO jaA jat jau jav jaj jas jaJ jak jad jay jac ja5 cyI jbv jbJ cyI jcx)) hP hD [0, 1, 2] [] hCc rfl (by decide +kernel) (by decide +kernel) rfl hk1 hFc hP1 hD1
      generalize H1 = H at hP hS ⊢
      refine lv_if_eq (tgt := 27) hx hb (qaa qdz 12 rfl) (by decide) (fun c3 => ?_) (fun c3 => ?_)
      · have hw := hw.1 c3
        refine lv_iconst (v := 0) hx hb (qaa qpa 1 rfl) (by decide) ?_
        exact qPc dC dI cyB cyI cyJ cyP a0 ja5 jbJ jaX jaF jaD ja7 jby jbf jaM jaY jap jaK jal jam jax jao jaV jae jag jaf ja4 jaw jaI jaZ jaH jaS jan jaU jaE jar jaL jah jaB jaa jaz jaG jab ja2 z0_s jaq jai jaO jaA jat jau jav jaj jas jaJ jak jad jay jac jaN jbw jbv jcx Q (qr3 jaN jbw jbv jcx Q n) ih C0 _ _ _ l2 l1 0 hP hD hS (lv_sub hl [0, 2] rfl) hw
      · have hw := hw.2 c3
        refine lv_iconst (v := 1) hx hb (qaa qdz 13 rfl) (by decide) ?_
        refine lv_iload_n hx hb (qaa qdz 14 rfl) rfl (lv_at hl 2 rfl) ?_
        refine lv_ishl hx hb (qaa qdz 15 rfl) ?_
        refine lv_goto (tgt := 28) hx hb (qaa qpa 0 rfl) (by decide) ?_
        exact qPc dC dI cyB cyI cyJ cyP a0 ja5 jbJ jaX jaF jaD ja7 jby jbf jaM jaY jap jaK jal jam jax jao jaV jae jag jaf ja4 jaw jaI jaZ jaH jaS jan jaU jaE jar jaL jah jaB jaa jaz jaG jab ja2 z0_s jaq jai jaO jaA jat jau jav jaj jas jaJ jak jad jay jac jaN jbw jbv jcx Q (qr3 jaN jbw jbv jcx Q n) ih C0 _ _ _ l2 l1 (1 <<< (l2 &&& 31)) hP hD hS (lv_sub hl [0, 2] rfl) hw
set_option maxHeartbeats 4000000 in
set_option maxRecDepth 100000 in
theorem qZM (l : Launch) (dC : Nat → ClassId) (dI : Nat → Nat → Nat) (cyB cyI cyJ cyP : ClassId) (a0 ja5 jbJ sz : Nat) (jaX jaF jaD ja7 jby jbf jaM jaY jap jaK jal jam jax jao jaV jae jag jaf ja4 jaw jaI jaZ jaH jaS jan jaU jaE jar jaL jah jaB jaa jaz jaG jab ja2 z0_s jaq jai jaO jaA jat jau jav jaj jas jaJ jak jad jay jac : Value) (jaN jbw : Int32) (jbv jcx : NI) {Q : Int32 → Prop} (hw : qEW jaN jbw jbv jcx Q) : Met l yX11_safeForms wsX11_safeForms ({ frames := 2, cells := 0, slots := 0, locals := 42 }) (va_Pc [.ref a0] (cPc (dC, dI) (kT cyB cyI cyJ cyP) (qzH a0 jaX jaF jaD ja7 jby jbf jaM jaY jap jaK jal jam jax jao ja5 jaV jbJ jae jag jaf jaN ja4 jbw jaw jaI jaZ jaH jaS jan jaU jaE jar jaL jah jaB jaa jaz jaG jab ja2 z0_s jaq jai jaO jaA jat jau jav jaj jas jaJ jak jad jay jac ja5 cyI jbv jbJ cyI jcx) sz)) (va_Qi (fun (r : Int32) (_ : Unit) => Q r ) (cB (dC, dI) (kT cyB cyI cyJ cyP) (va_A (qzH a0 jaX jaF jaD ja7 jby jbf jaM jaY jap jaK jal jam jax jao ja5 jaV jbJ jae jag jaf jaN ja4 jbw jaw jaI jaZ jaH jaS jan jaU jaE jar jaL jah jaB jaa jaz jaG jab ja2 z0_s jaq jai jaO jaA jat jau jav jaj jas jaJ jak jad jay jac ja5 cyI jbv jbJ cyI jcx) sz) (fun u : Unit => ((qzH a0 jaX jaF jaD ja7 jby jbf jaM jaY jap jaK jal jam jax jao ja5 jaV jbJ jae jag jaf jaN ja4 jbw jaw jaI jaZ jaH jaS jan jaU jaE jar jaL jah jaB jaa jaz jaG jab ja2 z0_s jaq jai jaO jaA jat jau jav jaj jas jaJ jak jad jay jac ja5 cyI jbv jbJ cyI jcx) : va_W))) (va_A (qzH a0 jaX jaF jaD ja7 jby jbf jaM jaY jap jaK jal jam jax jao ja5 jaV jbJ jae jag jaf jaN ja4 jbw jaw jaI jaZ jaH jaS jan jaU jaE jar jaL jah jaB jaa jaz jaG jab ja2 z0_s jaq jai jaO jaA jat jau jav jaj jas jaJ jak jad jay jac ja5 cyI jbv jbJ cyI jcx) sz)) 0 0 (va_A (qzH a0 jaX jaF jaD ja7 jby jbf jaM jaY jap jaK jal jam jax jao ja5 jaV jbJ jae jag jaf jaN ja4 jbw jaw jaI jaZ jaH jaS jan jaU jaE jar jaL jah jaB jaa jaz jaG jab ja2 z0_s jaq jai jaO jaA jat jau jav jaj jas jaJ jak jad jay jac ja5 cyI jbv jbJ cyI jcx) sz) := by
  refine Met.ofW (cc := cX11_safeForms) (maxL := 3) (ret := (some .int)) (by decide) rfl ?_
  intro p e s m args below meth c s₁ B hml hv
  obtain ⟨rfl, hsz, hP, hK, hD0, hNw⟩ := hv
  have hx := B.exec
  have hb := B.bytes
  have hr := B.returns
  have hts := atoms_spec (ws := wsX11_safeForms) B.pre
  have hown : s.vm.findClass RX11 = some m.cls := findClass_of_methodNamed B.named
  have hlocks := B.notSynchronized
  subst hsz
  have hD := hD0.self (sz := s.heap.size)
  generalize hAe : va_A (qzH a0 jaX jaF jaD ja7 jby jbf jaM jaY jap jaK jal jam jax jao ja5 jaV jbJ jae jag jaf jaN ja4 jbw jaw jaI jaZ jaH jaS jan jaU jaE jar jaL jah jaB jaa jaz jaG jab ja2 z0_s jaq jai jaO jaA jat jau jav jaj jas jaJ jak jad jay jac ja5 cyI jbv jbJ cyI jcx) s.heap.size = A at hD ⊢
  have hA : ∀ q : Nat, s.heap.size ≤ q → A q := fun q h => by rw [← hAe]; exact Or.inr h
  have hS : va_S A s.heap s.heap [] := va_S.rf
  have hP : va_P (dC, dI) vwCl (qzH a0 jaX jaF jaD ja7 jby jbf jaM jaY jap jaK jal jam jax jao ja5 jaV jbJ jae jag jaf jaN ja4 jbw jaw jaI jaZ jaH jaS jan jaU jaE jar jaL jah jaB jaa jaz jaG jab ja2 z0_s jaq jai jaO jaA jat jau jav jaj jas jaJ jak jad jay jac ja5 cyI jbv jbJ cyI jcx) s.heap := hP
  have hl := lv_entry ([.ref a0]) (n := 3) (nbq rfl)
  rw [lg_entry_eq]
  generalize (lg_sl ([.ref a0]) ++ List.replicate (3 - (lg_sl ([.ref a0])).length) Slot.unset).toArray = ls at hl ⊢
  have hl : lv_has ls 3 [(0, .ref a0)] := hl
  have C0 : cfx p s m _ meth c cX11_safeForms (some .int) wsX11_safeForms RX11 3 A (dC, dI) (kT cyB cyI cyJ cyP) := ⟨hx, hb, hr, hts, hown, hlocks, hml, hA, hK, hNw⟩
  clear hAe
  obtain ⟨H, hH⟩ : ∃ H, H = s.heap := ⟨_, rfl⟩
  rw [← hH] at hP ⊢
  have hS : va_S A s.heap H [] := by rw [hH]; exact va_S.rf
  have hS := hS
  refine lv_iconst (v := 0) hx hb (qaa qdz 0 rfl) (by decide) ?_
  refine lv_istore_n (lv' := [(1, .int 0), (0, .ref a0)]) hx hb (qaa qdz 1 rfl) rfl hl (by decide) rfl (fun ls hl => ?_)
  refine lv_iconst (v := 0) hx hb (qaa qdz 2 rfl) (by decide) ?_
  refine lv_istore_n (lv' := [(2, .int 0), (1, .int 0), (0, .ref a0)]) hx hb (qaa qdz 3 rfl) rfl hl (by decide) rfl (fun ls hl => ?_)
  obtain ⟨n9, hw⟩ := hw
  exact qaeD dC dI cyB cyI cyJ cyP a0 ja5 jbJ jaX jaF jaD ja7 jby jbf jaM jaY jap jaK jal jam jax jao jaV jae jag jaf ja4 jaw jaI jaZ jaH jaS jan jaU jaE jar jaL jah jaB jaa jaz jaG jab ja2 z0_s jaq jai jaO jaA jat jau jav jaj jas jaJ jak jad jay jac jaN jbw jbv jcx Q C0 n9 _ _ _ 0 0 hP hD hS (lv_sub hl [2, 1, 0] rfl) hw
theorem qbu : ∀ w ∈ u_ws RX11 TX11 55, w ∈ wsX11_findSeats := uiM qip qga (by decide +kernel)
theorem qxl : (.fieldLink RX11 166 "MarchHaresModel" "forms" "I" : Cond) ∈ wsX11_findSeats := qip 519 (by decide +kernel)
theorem qwX : (.fieldLink RX11 169 "MarchHaresModel" "hares" "I" : Cond) ∈ wsX11_findSeats := qip 520 (by decide +kernel)
theorem q63 : (.fieldLink RX11 71 "MarchHaresModel" "s" "[I" : Cond) ∈ wsX11_findSeats := qip 457 (by decide +kernel)
theorem qqa : (.fieldLink RX11 83 "MarchHaresModel" "mostOn" "[I" : Cond) ∈ wsX11_findSeats := qip 461 (by decide +kernel)
theorem qx5 : (.fieldLink RX11 86 "MarchHaresModel" "seatOf" "[I" : Cond) ∈ wsX11_findSeats := qip 462 (by decide +kernel)
theorem qDL : (.fieldLink RX11 89 "MarchHaresModel" "maySit" "[I" : Cond) ∈ wsX11_findSeats := qip 463 (by decide +kernel)
set_option maxHeartbeats 4000000 in
set_option maxRecDepth 100000 in
theorem qPt {p : Program} {l : Launch} {e : Env} {s : State} {m : MethodId} {args : Array Value} {below : List Frame} {meth : Method} {c : Code} {A : Nat → Prop} (dC : Nat → ClassId) (dI : Nat → Nat → Nat) (cyB cyI cyJ cyP : ClassId) (a0 jaT a0_s jiY ja5 jbu jbB jbG jbg jbJ jiO jiS : Nat) (jaX jaF jaD ja7 jby jbf jaM jaY jap jaK jal jam jax jao jaV jae jag jaf jaw jaI jan jar jaL jah jaB jaa jaz jaG jab jaq jai jaO jaA jaj jas jaJ jak jad jay jac : Value) (jaN jaC jbw jbD : Int32) (jb0 jbv jcu jbR jcx : NI) (Q : NI → NI → NI → NI → NI → NI → Prop) (K6 : NI → NI → NI → NI → NI → NI → Int32 → Prop) (hK6 : ∀ (H : Heap) (locs : List Loc) (ls : Array Slot) (f0_s jbZ jca jjl jjp jjq : NI) (l1 : Int32), va_P (dC, dI) vwCl (qbN a0 jaX jaF jaD ja7 jby jbf jaM jaY jap jaK jal jam jax jao ja5 jaV jbJ jae jag jaf jaN jaC jbw jaw jaI jbG jbg jbB jan jbD jbu jar jaL jah jaB jaa jaz jaG jab jaT a0_s jaq jai jaO jaA jiO jiS jiY jaj jas jaJ jak jad jay jac jaT cyI jb0 a0_s cyI f0_s ja5 cyI jbv jbu cyI jbZ jbB cyI jca jbG cyI jcu jbg cyI jbR jbJ cyI jcx jiO cyI jjl jiY cyI jjp jiS cyI jjq) H → va_D A (qbN a0 jaX jaF jaD ja7 jby jbf jaM jaY jap jaK jal jam jax jao ja5 jaV jbJ jae jag jaf jaN jaC jbw jaw jaI jbG jbg jbB jan jbD jbu jar jaL jah jaB jaa jaz jaG jab jaT a0_s jaq jai jaO jaA jiO jiS jiY jaj jas jaJ jak jad jay jac jaT cyI jb0 a0_s cyI f0_s ja5 cyI jbv jbu cyI jbZ jbB cyI jca jbG cyI jcu jbg cyI jbR jbJ cyI jcx jiO cyI jjl jiY cyI jjp jiS cyI jjq) → va_S A s.heap H locs → lv_has ls 6 [(0, .ref a0), (1, .int l1)] → K6 f0_s jbZ jca jjl jjp jjq l1 → W p l e (headSpec wsX11_findSeats ({ frames := 7, cells := 0, slots := 0, locals := 160 })).room s m args below meth c H locs 0 0 (MQ below (va_Qv (fun (u : NI × NI × NI × NI × NI × NI) => Q u.1 u.2.1 u.2.2.1 u.2.2.2.1 u.2.2.2.2.1 u.2.2.2.2.2) (cB (dC, dI) (kT cyB cyI cyJ cyP) A (fun u : NI × NI × NI × NI × NI × NI => ((qbN a0 jaX jaF jaD ja7 jby jbf jaM jaY jap jaK jal jam jax jao ja5 jaV jbJ jae jag jaf jaN jaC jbw jaw jaI jbG jbg jbB jan jbD jbu jar jaL jah jaB jaa jaz jaG jab jaT a0_s jaq jai jaO jaA jiO jiS jiY jaj jas jaJ jak jad jay jac jaT cyI jb0 a0_s cyI u.1 ja5 cyI jbv jbu cyI u.2.1 jbB cyI u.2.2.1 jbG cyI jcu jbg cyI jbR jbJ cyI jcx jiO cyI u.2.2.2.1 jiY cyI u.2.2.2.2.1 jiS cyI u.2.2.2.2.2) : va_W))) A) args s 0 0 A) (F0 m 6 ls [])) (C0 : cfx p s m args meth c cX11_findSeats none wsX11_findSeats RX11 6 A (dC, dI) (kT cyB cyI cyJ cyP)) : ∀ (H : Heap) (locs : List Loc) (ls : Array Slot) (f0_s jbZ jca jjl jjp jjq : NI) (l1 s1 s2 : Int32), va_P (dC, dI) vwCl (qbN a0 jaX jaF jaD ja7 jby jbf jaM jaY jap jaK jal jam jax jao ja5 jaV jbJ jae jag jaf jaN jaC jbw jaw jaI jbG jbg jbB jan jbD jbu jar jaL jah jaB jaa jaz jaG jab jaT a0_s jaq jai jaO jaA jiO jiS jiY jaj jas jaJ jak jad jay jac jaT cyI jb0 a0_s cyI f0_s ja5 cyI jbv jbu cyI jbZ jbB cyI jca jbG cyI jcu jbg cyI jbR jbJ cyI jcx jiO cyI jjl jiY cyI jjp jiS cyI jjq) H → va_D A (qbN a0 jaX jaF jaD ja7 jby jbf jaM jaY jap jaK jal jam jax jao ja5 jaV jbJ jae jag jaf jaN jaC jbw jaw jaI jbG jbg jbB jan jbD jbu jar jaL jah jaB jaa jaz jaG jab jaT a0_s jaq jai jaO jaA jiO jiS jiY jaj jas jaJ jak jad jay jac jaT cyI jb0 a0_s cyI f0_s ja5 cyI jbv jbu cyI jbZ jbB cyI jca jbG cyI jcu jbg cyI jbR jbJ cyI jcx jiO cyI jjl jiY cyI jjp jiS cyI jjq) → va_S A s.heap H locs → lv_has ls 6 [(0, .ref a0), (1, .int l1)] → qFn jaN jaC jbw jbD jb0 jbv jcu jbR jcx Q K6 f0_s jbZ jca jjl jjp jjq l1 s1 s2 → W p l e (headSpec wsX11_findSeats ({ frames := 7, cells := 0, slots := 0, locals := 160 })).room s m args below meth c H locs 0 0 (MQ below (va_Qv (fun (u : NI × NI × NI × NI × NI × NI) => Q u.1 u.2.1 u.2.2.1 u.2.2.2.1 u.2.2.2.2.1 u.2.2.2.2.2) (cB (dC, dI) (kT cyB cyI cyJ cyP) A (fun u : NI × NI × NI × NI × NI × NI => ((qbN a0 jaX jaF jaD ja7 jby jbf jaM jaY jap jaK jal jam jax jao ja5 jaV jbJ jae jag jaf jaN jaC jbw jaw jaI jbG jbg jbB jan jbD jbu jar jaL jah jaB jaa jaz jaG jab jaT a0_s jaq jai jaO jaA jiO jiS jiY jaj jas jaJ jak jad jay jac jaT cyI jb0 a0_s cyI u.1 ja5 cyI jbv jbu cyI u.2.1 jbB cyI u.2.2.1 jbG cyI jcu jbg cyI jbR jbJ cyI jcx jiO cyI u.2.2.2.1 jiY cyI u.2.2.2.2.1 jiS cyI u.2.2.2.2.2) : va_W))) A) args s 0 0 A) (F0 m 52 ls [.int s2, .int s1, .ref jiY]) := by
  obtain ⟨hx, hb, hr, hts, hown, hlocks, hml, hA, hK, hNw⟩ := id C0
  intro H locs ls f0_s jbZ jca jjl jjp jjq l1 s1 s2 hP hD hS hl hw
  obtain ⟨hi9, hw⟩ := hw
  refine va_iast hx hb hK hP hD hS 10 1 rfl rfl hi9 (qaa qcL 0 rfl) (fun H locs hP hD hS => ?_)
  obtain ⟨f17, ef17⟩ : ∃ y : NI, y = upd jjp s1.toNatClampNeg s2 := ⟨_, rfl⟩
  have hw := hw f17 ef17
  have hP : va_P (dC, dI) vwCl (qbN a0 jaX jaF jaD ja7 jby jbf jaM jaY jap jaK jal jam jax jao ja5 jaV jbJ jae jag jaf jaN jaC jbw jaw jaI jbG jbg jbB jan jbD jbu jar jaL jah jaB jaa jaz jaG jab jaT a0_s jaq jai jaO jaA jiO jiS jiY jaj jas jaJ jak jad jay jac jaT cyI jb0 a0_s cyI f0_s ja5 cyI jbv jbu cyI jbZ jbB cyI jca jbG cyI jcu jbg cyI jbR jbJ cyI jcx jiO cyI jjl jiY cyI f17 jiS cyI jjq) H := by rw [ef17]; exact hP
  have hD : va_D A (qbN a0 jaX jaF jaD ja7 jby jbf jaM jaY jap jaK jal jam jax jao ja5 jaV jbJ jae jag jaf jaN jaC jbw jaw jaI jbG jbg jbB jan jbD jbu jar jaL jah jaB jaa jaz jaG jab jaT a0_s jaq jai jaO jaA jiO jiS jiY jaj jas jaJ jak jad jay jac jaT cyI jb0 a0_s cyI f0_s ja5 cyI jbv jbu cyI jbZ jbB cyI jca jbG cyI jcu jbg cyI jbR jbJ cyI jcx jiO cyI jjl jiY cyI f17 jiS cyI jjq) := by rw [ef17]; exact hD
  obtain ⟨x18, ex18⟩ : ∃ y : Int32, y = l1 + 1 := ⟨_, rfl⟩
  have hw := hw x18 ex18
  refine lv_iinc (v := x18) (lv' := [(1, .int x18), (0, .ref a0)]) hx hb (qaa qcL 1 rfl) hl (k := 1) rfl (by rw [ex18]; rfl) (by decide) rfl (fun ls hl => ?_)
  refine lv_goto (tgt := 6) hx hb (qaa qcL 2 rfl) (by decide) ?_
  exact hK6 _ _ _ f0_s jbZ jca jjl f17 jjq x18 hP hD hS (lv_sub hl [1, 0] rfl) hw
set_option maxHeartbeats 4000000 in
set_option maxRecDepth 100000 in
theorem qDr {p : Program} {l : Launch} {e : Env} {s : State} {m : MethodId} {args : Array Value} {below : List Frame} {meth : Method} {c : Code} {A : Nat → Prop} (dC : Nat → ClassId) (dI : Nat → Nat → Nat) (cyB cyI cyJ cyP : ClassId) (a0 jaT a0_s jiY ja5 jbu jbB jbG jbg jbJ jiO jiS : Nat) (jaX jaF jaD ja7 jby jbf jaM jaY jap jaK jal jam jax jao jaV jae jag jaf jaw jaI jan jar jaL jah jaB jaa jaz jaG jab jaq jai jaO jaA jaj jas jaJ jak jad jay jac : Value) (jaN jaC jbw jbD : Int32) (jb0 jbv jcu jbR jcx : NI) (Q : NI → NI → NI → NI → NI → NI → Prop) (K99 : NI → NI → NI → NI → NI → NI → Int32 → Prop) (K105 : NI → NI → NI → NI → NI → NI → Int32 → Int32 → Prop) (K132 : NI → NI → NI → NI → NI → NI → Int32 → Int32 → Int32 → Int32 → Prop) (hK99 : ∀ (H : Heap) (locs : List Loc) (ls : Array Slot) (f0_s jbZ jca jjl jjp jjq : NI) (l1 : Int32), va_P (dC, dI) vwCl (qbN a0 jaX jaF jaD ja7 jby jbf jaM jaY jap jaK jal jam jax jao ja5 jaV jbJ jae jag jaf jaN jaC jbw jaw jaI jbG jbg jbB jan jbD jbu jar jaL jah jaB jaa jaz jaG jab jaT a0_s jaq jai jaO jaA jiO jiS jiY jaj jas jaJ jak jad jay jac jaT cyI jb0 a0_s cyI f0_s ja5 cyI jbv jbu cyI jbZ jbB cyI jca jbG cyI jcu jbg cyI jbR jbJ cyI jcx jiO cyI jjl jiY cyI jjp jiS cyI jjq) H → va_D A (qbN a0 jaX jaF jaD ja7 jby jbf jaM jaY jap jaK jal jam jax jao ja5 jaV jbJ jae jag jaf jaN jaC jbw jaw jaI jbG jbg jbB jan jbD jbu jar jaL jah jaB jaa jaz jaG jab jaT a0_s jaq jai jaO jaA jiO jiS jiY jaj jas jaJ jak jad jay jac jaT cyI jb0 a0_s cyI f0_s ja5 cyI jbv jbu cyI jbZ jbB cyI jca jbG cyI jcu jbg cyI jbR jbJ cyI jcx jiO cyI jjl jiY cyI jjp jiS cyI jjq) → va_S A s.heap H locs → lv_has ls 6 [(0, .ref a0), (1, .int l1)] → K99 f0_s jbZ jca jjl jjp jjq l1 → W p l e (headSpec wsX11_findSeats ({ frames := 7, cells := 0, slots := 0, locals := 160 })).room s m args below meth c H locs 0 0 (MQ below (va_Qv (fun (u : NI × NI × NI × NI × NI × NI) => Q u.1 u.2.1 u.2.2.1 u.2.2.2.1 u.2.2.2.2.1 u.2.2.2.2.2) (cB (dC, dI) (kT cyB cyI cyJ cyP) A (fun u : NI × NI × NI × NI × NI × NI => ((qbN a0 jaX jaF jaD ja7 jby jbf jaM jaY jap jaK jal jam jax jao ja5 jaV jbJ jae jag jaf jaN jaC jbw jaw jaI jbG jbg jbB jan jbD jbu jar jaL jah jaB jaa jaz jaG jab jaT a0_s jaq jai jaO jaA jiO jiS jiY jaj jas jaJ jak jad jay jac jaT cyI jb0 a0_s cyI u.1 ja5 cyI jbv jbu cyI u.2.1 jbB cyI u.2.2.1 jbG cyI jcu jbg cyI jbR jbJ cyI jcx jiO cyI u.2.2.2.1 jiY cyI u.2.2.2.2.1 jiS cyI u.2.2.2.2.2) : va_W))) A) args s 0 0 A) (F0 m 99 ls [])) (hK105 : ∀ (H : Heap) (locs : List Loc) (ls : Array Slot) (f0_s jbZ jca jjl jjp jjq : NI) (l1 l2 : Int32), va_P (dC, dI) vwCl (qbN a0 jaX jaF jaD ja7 jby jbf jaM jaY jap jaK jal jam jax jao ja5 jaV jbJ jae jag jaf jaN jaC jbw jaw jaI jbG jbg jbB jan jbD jbu jar jaL jah jaB jaa jaz jaG jab jaT a0_s jaq jai jaO jaA jiO jiS jiY jaj jas jaJ jak jad jay jac jaT cyI jb0 a0_s cyI f0_s ja5 cyI jbv jbu cyI jbZ jbB cyI jca jbG cyI jcu jbg cyI jbR jbJ cyI jcx jiO cyI jjl jiY cyI jjp jiS cyI jjq) H → va_D A (qbN a0 jaX jaF jaD ja7 jby jbf jaM jaY jap jaK jal jam jax jao ja5 jaV jbJ jae jag jaf jaN jaC jbw jaw jaI jbG jbg jbB jan jbD jbu jar jaL jah jaB jaa jaz jaG jab jaT a0_s jaq jai jaO jaA jiO jiS jiY jaj jas jaJ jak jad jay jac jaT cyI jb0 a0_s cyI f0_s ja5 cyI jbv jbu cyI jbZ jbB cyI jca jbG cyI jcu jbg cyI jbR jbJ cyI jcx jiO cyI jjl jiY cyI jjp jiS cyI jjq) → va_S A s.heap H locs → lv_has ls 6 [(0, .ref a0), (1, .int l1), (2, .int l2)] → K105 f0_s jbZ jca jjl jjp jjq l1 l2 → W p l e (headSpec wsX11_findSeats ({ frames := 7, cells := 0, slots := 0, locals := 160 })).room s m args below meth c H locs 0 0 (MQ below (va_Qv (fun (u : NI × NI × NI × NI × NI × NI) => Q u.1 u.2.1 u.2.2.1 u.2.2.2.1 u.2.2.2.2.1 u.2.2.2.2.2) (cB (dC, dI) (kT cyB cyI cyJ cyP) A (fun u : NI × NI × NI × NI × NI × NI => ((qbN a0 jaX jaF jaD ja7 jby jbf jaM jaY jap jaK jal jam jax jao ja5 jaV jbJ jae jag jaf jaN jaC jbw jaw jaI jbG jbg jbB jan jbD jbu jar jaL jah jaB jaa jaz jaG jab jaT a0_s jaq jai jaO jaA jiO jiS jiY jaj jas jaJ jak jad jay jac jaT cyI jb0 a0_s cyI u.1 ja5 cyI jbv jbu cyI u.2.1 jbB cyI u.2.2.1 jbG cyI jcu jbg cyI jbR jbJ cyI jcx jiO cyI u.2.2.2.1 jiY cyI u.2.2.2.2.1 jiS cyI u.2.2.2.2.2) : va_W))) A) args s 0 0 A) (F0 m 105 ls [])) (hK132 : ∀ (H : Heap) (locs : List Loc) (ls : Array Slot) (f0_s jbZ jca jjl jjp jjq : NI) (l1 l2 l3 l4 : Int32), va_P (dC, dI) vwCl (qbN a0 jaX jaF jaD ja7 jby jbf jaM jaY jap jaK jal jam jax jao ja5 jaV jbJ jae jag jaf jaN jaC jbw jaw jaI jbG jbg jbB jan jbD jbu jar jaL jah jaB jaa jaz jaG jab jaT a0_s jaq jai jaO jaA jiO jiS jiY jaj jas jaJ jak jad jay jac jaT cyI jb0 a0_s cyI f0_s ja5 cyI jbv jbu cyI jbZ jbB cyI jca jbG cyI jcu jbg cyI jbR jbJ cyI jcx jiO cyI jjl jiY cyI jjp jiS cyI jjq) H → va_D A (qbN a0 jaX jaF jaD ja7 jby jbf jaM jaY jap jaK jal jam jax jao ja5 jaV jbJ jae jag jaf jaN jaC jbw jaw jaI jbG jbg jbB jan jbD jbu jar jaL jah jaB jaa jaz jaG jab jaT a0_s jaq jai jaO jaA jiO jiS jiY jaj jas jaJ jak jad jay jac jaT cyI jb0 a0_s cyI f0_s ja5 cyI jbv jbu cyI jbZ jbB cyI jca jbG cyI jcu jbg cyI jbR jbJ cyI jcx jiO cyI jjl jiY cyI jjp jiS cyI jjq) → va_S A s.heap H locs → lv_has ls 6 [(0, .ref a0), (1, .int l1), (2, .int l2), (3, .int l3), (4, .int l4)] → K132 f0_s jbZ jca jjl jjp jjq l1 l2 l3 l4 → W p l e (headSpec wsX11_findSeats ({ frames := 7, cells := 0, slots := 0, locals := 160 })).room s m args below meth c H locs 0 0 (MQ below (va_Qv (fun (u : NI × NI × NI × NI × NI × NI) => Q u.1 u.2.1 u.2.2.1 u.2.2.2.1 u.2.2.2.2.1 u.2.2.2.2.2) (cB (dC, dI) (kT cyB cyI cyJ cyP) A (fun u : NI × NI × NI × NI × NI × NI => ((qbN a0 jaX jaF jaD ja7 jby jbf jaM jaY jap jaK jal jam jax jao ja5 jaV jbJ jae jag jaf jaN jaC jbw jaw jaI jbG jbg jbB jan jbD jbu jar jaL jah jaB jaa jaz jaG jab jaT a0_s jaq jai jaO jaA jiO jiS jiY jaj jas jaJ jak jad jay jac jaT cyI jb0 a0_s cyI u.1 ja5 cyI jbv jbu cyI u.2.1 jbB cyI u.2.2.1 jbG cyI jcu jbg cyI jbR jbJ cyI jcx jiO cyI u.2.2.2.1 jiY cyI u.2.2.2.2.1 jiS cyI u.2.2.2.2.2) : va_W))) A) args s 0 0 A) (F0 m 132 ls [])) (C0 : cfx p s m args meth c cX11_findSeats none wsX11_findSeats RX11 6 A (dC, dI) (kT cyB cyI cyJ cyP)) : ∀ (H : Heap) (locs : List Loc) (ls : Array Slot) (f0_s jbZ jca jjl jjp jjq : NI) (l1 l2 l3 l4 : Int32), va_P (dC, dI) vwCl (qbN a0 jaX jaF jaD ja7 jby jbf jaM jaY jap jaK jal jam jax jao ja5 jaV jbJ jae jag jaf jaN jaC jbw jaw jaI jbG jbg jbB jan jbD jbu jar jaL jah jaB jaa jaz jaG jab jaT a0_s jaq jai jaO jaA jiO jiS jiY jaj jas jaJ jak jad jay jac jaT cyI jb0 a0_s cyI f0_s ja5 cyI jbv jbu cyI jbZ jbB cyI jca jbG cyI jcu jbg cyI jbR jbJ cyI jcx jiO cyI jjl jiY cyI jjp jiS cyI jjq) H → va_D A (qbN a0 jaX jaF jaD ja7 jby jbf jaM jaY jap jaK jal jam jax jao ja5 jaV jbJ jae jag jaf jaN jaC jbw jaw jaI jbG jbg jbB jan jbD jbu jar jaL jah jaB jaa jaz jaG jab jaT a0_s jaq jai jaO jaA jiO jiS jiY jaj jas jaJ jak jad jay jac jaT cyI jb0 a0_s cyI f0_s ja5 cyI jbv jbu cyI jbZ jbB cyI jca jbG cyI jcu jbg cyI jbR jbJ cyI jcx jiO cyI jjl jiY cyI jjp jiS cyI jjq) → va_S A s.heap H locs → lv_has ls 6 [(0, .ref a0), (1, .int l1), (2, .int l2), (3, .int l3), (4, .int l4)] → qx3 jaN jaC jbw jbD jb0 jbv jcu jbR jcx Q K99 K105 K132 f0_s jbZ jca jjl jjp jjq l1 l2 l3 l4 → W p l e (headSpec wsX11_findSeats ({ frames := 7, cells := 0, slots := 0, locals := 160 })).room s m args below meth c H locs 0 0 (MQ below (va_Qv (fun (u : NI × NI × NI × NI × NI × NI) => Q u.1 u.2.1 u.2.2.1 u.2.2.2.1 u.2.2.2.2.1 u.2.2.2.2.2) (cB (dC, dI) (kT cyB cyI cyJ cyP) A (fun u : NI × NI × NI × NI × NI × NI => ((qbN a0 jaX jaF jaD ja7 jby jbf jaM jaY jap jaK jal jam jax jao ja5 jaV jbJ jae jag jaf jaN jaC jbw jaw jaI jbG jbg jbB jan jbD jbu jar jaL jah jaB jaa jaz jaG jab jaT a0_s jaq jai jaO jaA jiO jiS jiY jaj jas jaJ jak jad jay jac jaT cyI jb0 a0_s cyI u.1 ja5 cyI jbv jbu cyI u.2.1 jbB cyI u.2.2.1 jbG cyI jcu jbg cyI jbR jbJ cyI jcx jiO cyI u.2.2.2.1 jiY cyI u.2.2.2.2.1 jiS cyI u.2.2.2.2.2) : va_W))) A) args s 0 0 A) (F0 m 209 ls []) := by
  obtain ⟨hx, hb, hr, hts, hown, hlocks, hml, hA, hK, hNw⟩ := id C0
  intro H locs ls f0_s jbZ jca jjl jjp jjq l1 l2 l3 l4 hP hD hS hl hw
  obtain ⟨x69, ex69⟩ : ∃ y : Int32, y = l4 + 1 := ⟨_, rfl⟩
  have hw := hw x69 ex69
  refine lv_iinc (v := x69) (lv' := [(4, .int x69), (0, .ref a0), (1, .int l1), (2, .int l2), (3, .int l3)]) hx hb (qaa qcn 10 rfl) hl (k := 4) rfl (by rw [ex69]; rfl) (by decide) rfl (fun ls hl => ?_)
  refine lv_goto (tgt := 132) hx hb (qaa qcn 11 rfl) (by decide) ?_
  exact hK132 _ _ _ f0_s jbZ jca jjl jjp jjq l1 l2 l3 x69 hP hD hS (lv_sub hl [1, 2, 3, 4, 0] rfl) hw
set_option maxHeartbeats 4000000 in
set_option maxRecDepth 100000 in
theorem q6m {p : Program} {l : Launch} {e : Env} {s : State} {m : MethodId} {args : Array Value} {below : List Frame} {meth : Method} {c : Code} {A : Nat → Prop} (dC : Nat → ClassId) (dI : Nat → Nat → Nat) (cyB cyI cyJ cyP : ClassId) (a0 jaT a0_s jiY ja5 jbu jbB jbG jbg jbJ jiO jiS : Nat) (jaX jaF jaD ja7 jby jbf jaM jaY jap jaK jal jam jax jao jaV jae jag jaf jaw jaI jan jar jaL jah jaB jaa jaz jaG jab jaq jai jaO jaA jaj jas jaJ jak jad jay jac : Value) (jaN jaC jbw jbD : Int32) (jb0 jbv jcu jbR jcx : NI) (Q : NI → NI → NI → NI → NI → NI → Prop) (K99 : NI → NI → NI → NI → NI → NI → Int32 → Prop) (K105 : NI → NI → NI → NI → NI → NI → Int32 → Int32 → Prop) (hK99 : ∀ (H : Heap) (locs : List Loc) (ls : Array Slot) (f0_s jbZ jca jjl jjp jjq : NI) (l1 : Int32), va_P (dC, dI) vwCl (qbN a0 jaX jaF jaD ja7 jby jbf jaM jaY jap jaK jal jam jax jao ja5 jaV jbJ jae jag jaf jaN jaC jbw jaw jaI jbG jbg jbB jan jbD jbu jar jaL jah jaB jaa jaz jaG jab jaT a0_s jaq jai jaO jaA jiO jiS jiY jaj jas jaJ jak jad jay jac jaT cyI jb0 a0_s cyI f0_s ja5 cyI jbv jbu cyI jbZ jbB cyI jca jbG cyI jcu jbg cyI jbR jbJ cyI jcx jiO cyI jjl jiY cyI jjp jiS cyI jjq) H → va_D A (qbN a0 jaX jaF jaD ja7 jby jbf jaM jaY jap jaK jal jam jax jao ja5 jaV jbJ jae jag jaf jaN jaC jbw jaw jaI jbG jbg jbB jan jbD jbu jar jaL jah jaB jaa jaz jaG jab jaT a0_s jaq jai jaO jaA jiO jiS jiY jaj jas jaJ jak jad jay jac jaT cyI jb0 a0_s cyI f0_s ja5 cyI jbv jbu cyI jbZ jbB cyI jca jbG cyI jcu jbg cyI jbR jbJ cyI jcx jiO cyI jjl jiY cyI jjp jiS cyI jjq) → va_S A s.heap H locs → lv_has ls 6 [(0, .ref a0), (1, .int l1)] → K99 f0_s jbZ jca jjl jjp jjq l1 → W p l e (headSpec wsX11_findSeats ({ frames := 7, cells := 0, slots := 0, locals := 160 })).room s m args below meth c H locs 0 0 (MQ below (va_Qv (fun (u : NI × NI × NI × NI × NI × NI) => Q u.1 u.2.1 u.2.2.1 u.2.2.2.1 u.2.2.2.2.1 u.2.2.2.2.2) (cB (dC, dI) (kT cyB cyI cyJ cyP) A (fun u : NI × NI × NI × NI × NI × NI => ((qbN a0 jaX jaF jaD ja7 jby jbf jaM jaY jap jaK jal jam jax jao ja5 jaV jbJ jae jag jaf jaN jaC jbw jaw jaI jbG jbg jbB jan jbD jbu jar jaL jah jaB jaa jaz jaG jab jaT a0_s jaq jai jaO jaA jiO jiS jiY jaj jas jaJ jak jad jay jac jaT cyI jb0 a0_s cyI u.1 ja5 cyI jbv jbu cyI u.2.1 jbB cyI u.2.2.1 jbG cyI jcu jbg cyI jbR jbJ cyI jcx jiO cyI u.2.2.2.1 jiY cyI u.2.2.2.2.1 jiS cyI u.2.2.2.2.2) : va_W))) A) args s 0 0 A) (F0 m 99 ls [])) (hK105 : ∀ (H : Heap) (locs : List Loc) (ls : Array Slot) (f0_s jbZ jca jjl jjp jjq : NI) (l1 l2 : Int32), va_P (dC, dI) vwCl (qbN a0 jaX jaF jaD ja7 jby jbf jaM jaY jap jaK jal jam jax jao ja5 jaV jbJ jae jag jaf jaN jaC jbw jaw jaI jbG jbg jbB jan jbD jbu jar jaL jah jaB jaa jaz jaG jab jaT a0_s jaq jai jaO jaA jiO jiS jiY jaj jas jaJ jak jad jay jac jaT cyI jb0 a0_s cyI f0_s ja5 cyI jbv jbu cyI jbZ jbB cyI jca jbG cyI jcu jbg cyI jbR jbJ cyI jcx jiO cyI jjl jiY cyI jjp jiS cyI jjq) H → va_D A (qbN a0 jaX jaF jaD ja7 jby jbf jaM jaY jap jaK jal jam jax jao ja5 jaV jbJ jae jag jaf jaN jaC jbw jaw jaI jbG jbg jbB jan jbD jbu jar jaL jah jaB jaa jaz jaG jab jaT a0_s jaq jai jaO jaA jiO jiS jiY jaj jas jaJ jak jad jay jac jaT cyI jb0 a0_s cyI f0_s ja5 cyI jbv jbu cyI jbZ jbB cyI jca jbG cyI jcu jbg cyI jbR jbJ cyI jcx jiO cyI jjl jiY cyI jjp jiS cyI jjq) → va_S A s.heap H locs → lv_has ls 6 [(0, .ref a0), (1, .int l1), (2, .int l2)] → K105 f0_s jbZ jca jjl jjp jjq l1 l2 → W p l e (headSpec wsX11_findSeats ({ frames := 7, cells := 0, slots := 0, locals := 160 })).room s m args below meth c H locs 0 0 (MQ below (va_Qv (fun (u : NI × NI × NI × NI × NI × NI) => Q u.1 u.2.1 u.2.2.1 u.2.2.2.1 u.2.2.2.2.1 u.2.2.2.2.2) (cB (dC, dI) (kT cyB cyI cyJ cyP) A (fun u : NI × NI × NI × NI × NI × NI => ((qbN a0 jaX jaF jaD ja7 jby jbf jaM jaY jap jaK jal jam jax jao ja5 jaV jbJ jae jag jaf jaN jaC jbw jaw jaI jbG jbg jbB jan jbD jbu jar jaL jah jaB jaa jaz jaG jab jaT a0_s jaq jai jaO jaA jiO jiS jiY jaj jas jaJ jak jad jay jac jaT cyI jb0 a0_s cyI u.1 ja5 cyI jbv jbu cyI u.2.1 jbB cyI u.2.2.1 jbG cyI jcu jbg cyI jbR jbJ cyI jcx jiO cyI u.2.2.2.1 jiY cyI u.2.2.2.2.1 jiS cyI u.2.2.2.2.2) : va_W))) A) args s 0 0 A) (F0 m 105 ls [])) (C0 : cfx p s m args meth c cX11_findSeats none wsX11_findSeats RX11 6 A (dC, dI) (kT cyB cyI cyJ cyP)) : ∀ (n : Nat) (H : Heap) (locs : List Loc) (ls : Array Slot) (f0_s jbZ jca jjl jjp jjq : NI) (l1 l2 l3 l4 : Int32), va_P (dC, dI) vwCl (qbN a0 jaX jaF jaD ja7 jby jbf jaM jaY jap jaK jal jam jax jao ja5 jaV jbJ jae jag jaf jaN jaC jbw jaw jaI jbG jbg jbB jan jbD jbu jar jaL jah jaB jaa jaz jaG jab jaT a0_s jaq jai jaO jaA jiO jiS jiY jaj jas jaJ jak jad jay jac jaT cyI jb0 a0_s cyI f0_s ja5 cyI jbv jbu cyI jbZ jbB cyI jca jbG cyI jcu jbg cyI jbR jbJ cyI jcx jiO cyI jjl jiY cyI jjp jiS cyI jjq) H → va_D A (qbN a0 jaX jaF jaD ja7 jby jbf jaM jaY jap jaK jal jam jax jao ja5 jaV jbJ jae jag jaf jaN jaC jbw jaw jaI jbG jbg jbB jan jbD jbu jar jaL jah jaB jaa jaz jaG jab jaT a0_s jaq jai jaO jaA jiO jiS jiY jaj jas jaJ jak jad jay jac jaT cyI jb0 a0_s cyI f0_s ja5 cyI jbv jbu cyI jbZ jbB cyI jca jbG cyI jcu jbg cyI jbR jbJ cyI jcx jiO cyI jjl jiY cyI jjp jiS cyI jjq) → va_S A s.heap H locs → lv_has ls 6 [(0, .ref a0), (1, .int l1), (2, .int l2), (3, .int l3), (4, .int l4)] → qmI jaN jaC jbw jbD jb0 jbv jcu jbR jcx Q K99 K105 n f0_s jbZ jca jjl jjp jjq l1 l2 l3 l4 → W p l e (headSpec wsX11_findSeats ({ frames := 7, cells := 0, slots := 0, locals := 160 })).room s m args below meth c H locs 0 0 (MQ below (va_Qv (fun (u : NI × NI × NI × NI × NI × NI) => Q u.1 u.2.1 u.2.2.1 u.2.2.2.1 u.2.2.2.2.1 u.2.2.2.2.2) (cB (dC, dI) (kT cyB cyI cyJ cyP) A (fun u : NI × NI × NI × NI × NI × NI => ((qbN a0 jaX jaF jaD ja7 jby jbf jaM jaY jap jaK jal jam jax jao ja5 jaV jbJ jae jag jaf jaN jaC jbw jaw jaI jbG jbg jbB jan jbD jbu jar jaL jah jaB jaa jaz jaG jab jaT a0_s jaq jai jaO jaA jiO jiS jiY jaj jas jaJ jak jad jay jac jaT cyI jb0 a0_s cyI u.1 ja5 cyI jbv jbu cyI u.2.1 jbB cyI u.2.2.1 jbG cyI jcu jbg cyI jbR jbJ cyI jcx jiO cyI u.2.2.2.1 jiY cyI u.2.2.2.2.1 jiS cyI u.2.2.2.2.2) : va_W))) A) args s 0 0 A) (F0 m 132 ls []) := by
  obtain ⟨hx, hb, hr, hts, hown, hlocks, hml, hA, hK, hNw⟩ := id C0
  intro n
  induction n with
  | zero => intro H locs ls f0_s jbZ jca jjl jjp jjq l1 l2 l3 l4 hP hD hS hl hw; exact False.elim hw
  | succ n ih =>
    intro H locs ls f0_s jbZ jca jjl jjp jjq l1 l2 l3 l4 hP hD hS hl hw
    refine lv_iload hx hb (qaa qcm 3 rfl) (lv_at hl 4 rfl) ?_
    refine lv_aload_n hx hb (qaa qcm 4 rfl) rfl (lv_at hl 0 rfl) ?_
    refine va_get (D := (dC, dI)) (ci := 11) (v := .int jaN) (C := RX11) (T := TX11) (N := 55) hx hb hts qbu hown hK hP 0 rfl rfl 20 (by decide) (hts _ qxl) (fun _ h9 => h9) rfl (qaa qcm 5 rfl) ?_
    refine lv_icmp_ge (tgt := 215) hx hb (qaa qcm 6 rfl) (by decide) (fun c47 => ?_) (fun c47 => ?_)
    · have hw := hw.1 c47
      refine lv_aload_n hx hb (qaa qcn 12 rfl) rfl (lv_at hl 0 rfl) ?_
      refine va_get (D := (dC, dI)) (ci := 11) (v := .ref jiO) (C := RX11) (T := TX11) (N := 55) hx hb hts qbu hown hK hP 0 rfl rfl 45 (by decide) (hts _ qqa) (fun _ h9 => h9) rfl (qaa qcn 13 rfl) ?_
      refine lv_iload_n hx hb (qaa qcn 14 rfl) rfl (lv_at hl 1 rfl) ?_
      refine lv_bipush (v := 8) hx hb (qaa qcn 15 rfl) (by decide) ?_
      refine lv_ishl hx hb (qaa qcr 0 rfl) ?_
      refine lv_topi (fun x48 ex48 => ?_)
      have hw := hw x48 ex48
      refine lv_iload_n hx hb (qaa qcr 1 rfl) rfl (lv_at hl 2 rfl) ?_
      refine lv_ior hx hb (qaa qcr 2 rfl) ?_
      refine lv_topi (fun x49 ex49 => ?_)
      have hw := hw x49 ex49
      refine lv_iload_n hx hb (qaa qcr 3 rfl) rfl (lv_at hl 3 rfl) ?_
      obtain ⟨hi9, hw⟩ := hw
      refine va_iast hx hb hK hP hD hS 9 1 rfl rfl hi9 (qaa qcr 4 rfl) (fun H locs hP hD hS => ?_)
      obtain ⟨f50, ef50⟩ : ∃ y : NI, y = upd jjl x49.toNatClampNeg l3 := ⟨_, rfl⟩
      have hw := hw f50 ef50
      have hP : va_P (dC, dI) vwCl (qbN a0 jaX jaF jaD ja7 jby jbf jaM jaY jap jaK jal jam jax jao ja5 jaV jbJ jae jag jaf jaN jaC jbw jaw jaI jbG jbg jbB jan jbD jbu jar jaL jah jaB jaa jaz jaG jab jaT a0_s jaq jai jaO jaA jiO jiS jiY jaj jas jaJ jak jad jay jac jaT cyI jb0 a0_s cyI f0_s ja5 cyI jbv jbu cyI jbZ jbB cyI jca jbG cyI jcu jbg cyI jbR jbJ cyI jcx jiO cyI f50 jiY cyI jjp jiS cyI jjq) H := by rw [ef50]; exact hP
      have hD : va_D A (qbN a0 jaX jaF jaD ja7 jby jbf jaM jaY jap jaK jal jam jax jao ja5 jaV jbJ jae jag jaf jaN jaC jbw jaw jaI jbG jbg jbB jan jbD jbu jar jaL jah jaB jaa jaz jaG jab jaT a0_s jaq jai jaO jaA jiO jiS jiY jaj jas jaJ jak jad jay jac jaT cyI jb0 a0_s cyI f0_s ja5 cyI jbv jbu cyI jbZ jbB cyI jca jbG cyI jcu jbg cyI jbR jbJ cyI jcx jiO cyI f50 jiY cyI jjp jiS cyI jjq) := by rw [ef50]; exact hD
      obtain ⟨x51, ex51⟩ : ∃ y : Int32, y = l2 + 1 := ⟨_, rfl⟩
      have hw := hw x51 ex51
      refine lv_iinc (v := x51) (lv' := [(2, .int x51), (0, .ref a0), (1, .int l1), (3, .int l3), (4, .int l4)]) hx hb (qaa qcr 5 rfl) hl (k := 2) rfl (by rw [ex51]; rfl) (by decide) rfl (fun ls hl => ?_)
      refine lv_goto (tgt := 105) hx hb (qaa qcr 6 rfl) (by decide) ?_
      exact hK105 _ _ _ f0_s jbZ jca f50 jjp jjq l1 x51 hP hD hS (lv_sub hl [1, 2, 0] rfl) hw
    · have hw := hw.2 c47
      refine lv_aload_n hx hb (qaa qcm 7 rfl) rfl (lv_at hl 0 rfl) ?_
      refine va_get (D := (dC, dI)) (ci := 11) (v := .ref jiY) (C := RX11) (T := TX11) (N := 55) hx hb hts qbu hown hK hP 0 rfl rfl 47 (by decide) (hts _ qDL) (fun _ h9 => h9) rfl (qaa qcm 8 rfl) ?_
      refine lv_iload_n hx hb (qaa qcm 9 rfl) rfl (lv_at hl 1 rfl) ?_
      obtain ⟨hi9, hw⟩ := hw
      refine va_iald hx hb hK hP 10 1 rfl rfl hi9 (qaa qcm 10 rfl) ?_
      refine lv_topi (fun x52 ex52 => ?_)
      have hw := hw x52 ex52
      refine lv_iload_n hx hb (qaa qcm 11 rfl) rfl (lv_at hl 2 rfl) ?_
      refine lv_iconst (v := (-1)) hx hb (qaa qcm 12 rfl) (by decide) ?_
      refine lv_ixor hx hb (qaa qcm 13 rfl) ?_
      refine lv_iand hx hb (qaa qcm 14 rfl) ?_
      refine lv_iload hx hb (qaa qcm 15 rfl) (lv_at hl 4 rfl) ?_
      refine lv_ishr hx hb (qaa qcq 0 rfl) ?_
      refine lv_iconst (v := 1) hx hb (qaa qcq 1 rfl) (by decide) ?_
      refine lv_iand hx hb (qaa qcq 2 rfl) ?_
      refine lv_topi (fun x53 ex53 => ?_)
      have hw := hw x53 ex53
      refine lv_istore (lv' := [(5, .int x53), (0, .ref a0), (1, .int l1), (2, .int l2), (3, .int l3), (4, .int l4)]) hx hb (qaa qcq 3 rfl) hl (by decide) rfl (fun ls hl => ?_)
      refine lv_iload hx hb (qaa qcq 4 rfl) (lv_at hl 0 rfl) ?_
      refine lv_iconst (v := 1) hx hb (qaa qcq 5 rfl) (by decide) ?_
      refine lv_icmp_ne (tgt := 209) hx hb (qaa qcq 6 rfl) (by decide) (fun c54 => ?_) (fun c54 => ?_)
      · have hw := hw.1 c54
        exact qDr dC dI cyB cyI cyJ cyP a0 jaT a0_s jiY ja5 jbu jbB jbG jbg jbJ jiO jiS jaX jaF jaD ja7 jby jbf jaM jaY jap jaK jal jam jax jao jaV jae jag jaf jaw jaI jan jar jaL jah jaB jaa jaz jaG jab jaq jai jaO jaA jaj jas jaJ jak jad jay jac jaN jaC jbw jbD jb0 jbv jcu jbR jcx Q K99 K105 (qmI jaN jaC jbw jbD jb0 jbv jcu jbR jcx Q K99 K105 n) hK99 hK105 ih C0 _ _ _ f0_s jbZ jca jjl jjp jjq l1 l2 l3 l4 hP hD hS (lv_sub hl [1, 2, 3, 4, 5] rfl) hw
      · have hw := hw.2 c54
        refine lv_iconst (v := 1) hx hb (qaa qcq 7 rfl) (by decide) ?_
        refine lv_aload_n hx hb (qaa qcq 8 rfl) rfl (lv_at hl 1 rfl) ?_
        refine va_get (D := (dC, dI)) (ci := 11) (v := .ref jiO) (C := RX11) (T := TX11) (N := 55) hx hb hts qbu hown hK hP 0 rfl rfl 45 (by decide) (hts _ qqa) (fun _ h9 => h9) rfl (qaa qcq 9 rfl) ?_
        refine lv_iload_n hx hb (qaa qcq 10 rfl) rfl (lv_at hl 2 rfl) ?_
        refine lv_iconst (v := 1) hx hb (qaa qcq 11 rfl) (by decide) ?_
        refine lv_iadd hx hb (qaa qcq 12 rfl) ?_
        refine lv_topi (fun x55 ex55 => ?_)
        have hw := hw x55 ex55
        refine lv_bipush (v := 8) hx hb (qaa qcq 13 rfl) (by decide) ?_
        refine lv_ishl hx hb (qaa qcq 14 rfl) ?_
        refine lv_topi (fun x56 ex56 => ?_)
        have hw := hw x56 ex56
        refine lv_iload_n hx hb (qaa qcq 15 rfl) rfl (lv_at hl 3 rfl) ?_
        refine lv_ior hx hb (qaa qcw 0 rfl) ?_
        refine lv_topi (fun x57 ex57 => ?_)
        have hw := hw x57 ex57
        refine lv_iconst (v := 1) hx hb (qaa qcw 1 rfl) (by decide) ?_
        refine lv_iload hx hb (qaa qcw 2 rfl) (lv_at hl 5 rfl) ?_
        refine lv_ishl hx hb (qaa qcw 3 rfl) ?_
        refine lv_ior hx hb (qaa qcw 4 rfl) ?_
        refine lv_topi (fun x58 ex58 => ?_)
        have hw := hw x58 ex58
        obtain ⟨hi9, hw⟩ := hw
        refine va_iald hx hb hK hP 9 1 rfl rfl hi9 (qaa qcw 5 rfl) ?_
        refine lv_topi (fun x59 ex59 => ?_)
        have hw := hw x59 ex59
        refine lv_iadd hx hb (qaa qcw 6 rfl) ?_
        refine lv_iload_n hx hb (qaa qcw 7 rfl) rfl (lv_at hl 4 rfl) ?_
        refine lv_icmp_le (tgt := 209) hx hb (qaa qcw 8 rfl) (by decide) (fun c60 => ?_) (fun c60 => ?_)
        · have hw := hw.1 c60
          exact qDr dC dI cyB cyI cyJ cyP a0 jaT a0_s jiY ja5 jbu jbB jbG jbg jbJ jiO jiS jaX jaF jaD ja7 jby jbf jaM jaY jap jaK jal jam jax jao jaV jae jag jaf jaw jaI jan jar jaL jah jaB jaa jaz jaG jab jaq jai jaO jaA jaj jas jaJ jak jad jay jac jaN jaC jbw jbD jb0 jbv jcu jbR jcx Q K99 K105 (qmI jaN jaC jbw jbD jb0 jbv jcu jbR jcx Q K99 K105 n) hK99 hK105 ih C0 _ _ _ f0_s jbZ jca jjl jjp jjq l1 l2 l3 l4 hP hD hS (lv_sub hl [1, 2, 3, 4, 5] rfl) hw
        · have hw := hw.2 c60
          refine lv_iconst (v := 1) hx hb (qaa qcw 9 rfl) (by decide) ?_
          refine lv_aload_n hx hb (qaa qcw 10 rfl) rfl (lv_at hl 1 rfl) ?_
          refine va_get (D := (dC, dI)) (ci := 11) (v := .ref jiO) (C := RX11) (T := TX11) (N := 55) hx hb hts qbu hown hK hP 0 rfl rfl 45 (by decide) (hts _ qqa) (fun _ h9 => h9) rfl (qaa qcw 11 rfl) ?_
          refine lv_iload_n hx hb (qaa qcw 12 rfl) rfl (lv_at hl 2 rfl) ?_
          refine lv_iconst (v := 1) hx hb (qaa qcw 13 rfl) (by decide) ?_
          refine lv_iadd hx hb (qaa qcw 14 rfl) ?_
          refine lv_topi (fun x61 ex61 => ?_)
          have hw := hw x61 ex61
          refine lv_bipush (v := 8) hx hb (qaa qcw 15 rfl) (by decide) ?_
          refine lv_ishl hx hb (qaa qcn 0 rfl) ?_
          refine lv_topi (fun x62 ex62 => ?_)
          have hw := hw x62 ex62
          refine lv_iload_n hx hb (qaa qcn 1 rfl) rfl (lv_at hl 3 rfl) ?_
          refine lv_ior hx hb (qaa qcn 2 rfl) ?_
          refine lv_topi (fun x63 ex63 => ?_)
          have hw := hw x63 ex63
          refine lv_iconst (v := 1) hx hb (qaa qcn 3 rfl) (by decide) ?_
          refine lv_iload hx hb (qaa qcn 4 rfl) (lv_at hl 5 rfl) ?_
          refine lv_ishl hx hb (qaa qcn 5 rfl) ?_
          refine lv_ior hx hb (qaa qcn 6 rfl) ?_
          refine lv_topi (fun x64 ex64 => ?_)
          have hw := hw x64 ex64
          obtain ⟨hi9, hw⟩ := hw
          refine va_iald hx hb hK hP 9 1 rfl rfl hi9 (qaa qcn 7 rfl) ?_
          refine lv_topi (fun x65 ex65 => ?_)
          have hw := hw x65 ex65
          refine lv_iadd hx hb (qaa qcn 8 rfl) ?_
          refine lv_topi (fun x66 ex66 => ?_)
          have hw := hw x66 ex66
          refine lv_istore_n (lv' := [(3, .int x66), (5, .int x53), (0, .ref a0), (1, .int l1), (2, .int l2), (4, .int l4)]) hx hb (qaa qcn 9 rfl) rfl hl (by decide) rfl (fun ls hl => ?_)
          exact qDr dC dI cyB cyI cyJ cyP a0 jaT a0_s jiY ja5 jbu jbB jbG jbg jbJ jiO jiS jaX jaF jaD ja7 jby jbf jaM jaY jap jaK jal jam jax jao jaV jae jag jaf jaw jaI jan jar jaL jah jaB jaa jaz jaG jab jaq jai jaO jaA jaj jas jaJ jak jad jay jac jaN jaC jbw jbD jb0 jbv jcu jbR jcx Q K99 K105 (qmI jaN jaC jbw jbD jb0 jbv jcu jbR jcx Q K99 K105 n) hK99 hK105 ih C0 _ _ _ f0_s jbZ jca jjl jjp jjq l1 l2 x66 l4 hP hD hS (lv_sub hl [2, 3, 4, 0, 5] rfl) hw
set_option maxHeartbeats 4000000 in
set_option maxRecDepth 100000 in
theorem q6S {p : Program} {l : Launch} {e : Env} {s : State} {m : MethodId} {args : Array Value} {below : List Frame} {meth : Method} {c : Code} {A : Nat → Prop} (dC : Nat → ClassId) (dI : Nat → Nat → Nat) (cyB cyI cyJ cyP : ClassId) (a0 jaT a0_s jiY ja5 jbu jbB jbG jbg jbJ jiO jiS : Nat) (jaX jaF jaD ja7 jby jbf jaM jaY jap jaK jal jam jax jao jaV jae jag jaf jaw jaI jan jar jaL jah jaB jaa jaz jaG jab jaq jai jaO jaA jaj jas jaJ jak jad jay jac : Value) (jaN jaC jbw jbD : Int32) (jb0 jbv jcu jbR jcx : NI) (Q : NI → NI → NI → NI → NI → NI → Prop) (K99 : NI → NI → NI → NI → NI → NI → Int32 → Prop) (hK99 : ∀ (H : Heap) (locs : List Loc) (ls : Array Slot) (f0_s jbZ jca jjl jjp jjq : NI) (l1 : Int32), va_P (dC, dI) vwCl (qbN a0 jaX jaF jaD ja7 jby jbf jaM jaY jap jaK jal jam jax jao ja5 jaV jbJ jae jag jaf jaN jaC jbw jaw jaI jbG jbg jbB jan jbD jbu jar jaL jah jaB jaa jaz jaG jab jaT a0_s jaq jai jaO jaA jiO jiS jiY jaj jas jaJ jak jad jay jac jaT cyI jb0 a0_s cyI f0_s ja5 cyI jbv jbu cyI jbZ jbB cyI jca jbG cyI jcu jbg cyI jbR jbJ cyI jcx jiO cyI jjl jiY cyI jjp jiS cyI jjq) H → va_D A (qbN a0 jaX jaF jaD ja7 jby jbf jaM jaY jap jaK jal jam jax jao ja5 jaV jbJ jae jag jaf jaN jaC jbw jaw jaI jbG jbg jbB jan jbD jbu jar jaL jah jaB jaa jaz jaG jab jaT a0_s jaq jai jaO jaA jiO jiS jiY jaj jas jaJ jak jad jay jac jaT cyI jb0 a0_s cyI f0_s ja5 cyI jbv jbu cyI jbZ jbB cyI jca jbG cyI jcu jbg cyI jbR jbJ cyI jcx jiO cyI jjl jiY cyI jjp jiS cyI jjq) → va_S A s.heap H locs → lv_has ls 6 [(0, .ref a0), (1, .int l1)] → K99 f0_s jbZ jca jjl jjp jjq l1 → W p l e (headSpec wsX11_findSeats ({ frames := 7, cells := 0, slots := 0, locals := 160 })).room s m args below meth c H locs 0 0 (MQ below (va_Qv (fun (u : NI × NI × NI × NI × NI × NI) => Q u.1 u.2.1 u.2.2.1 u.2.2.2.1 u.2.2.2.2.1 u.2.2.2.2.2) (cB (dC, dI) (kT cyB cyI cyJ cyP) A (fun u : NI × NI × NI × NI × NI × NI => ((qbN a0 jaX jaF jaD ja7 jby jbf jaM jaY jap jaK jal jam jax jao ja5 jaV jbJ jae jag jaf jaN jaC jbw jaw jaI jbG jbg jbB jan jbD jbu jar jaL jah jaB jaa jaz jaG jab jaT a0_s jaq jai jaO jaA jiO jiS jiY jaj jas jaJ jak jad jay jac jaT cyI jb0 a0_s cyI u.1 ja5 cyI jbv jbu cyI u.2.1 jbB cyI u.2.2.1 jbG cyI jcu jbg cyI jbR jbJ cyI jcx jiO cyI u.2.2.2.1 jiY cyI u.2.2.2.2.1 jiS cyI u.2.2.2.2.2) : va_W))) A) args s 0 0 A) (F0 m 99 ls [])) (C0 : cfx p s m args meth c cX11_findSeats none wsX11_findSeats RX11 6 A (dC, dI) (kT cyB cyI cyJ cyP)) : ∀ (n : Nat) (H : Heap) (locs : List Loc) (ls : Array Slot) (f0_s jbZ jca jjl jjp jjq : NI) (l1 l2 : Int32), va_P (dC, dI) vwCl (qbN a0 jaX jaF jaD ja7 jby jbf jaM jaY jap jaK jal jam jax jao ja5 jaV jbJ jae jag jaf jaN jaC jbw jaw jaI jbG jbg jbB jan jbD jbu jar jaL jah jaB jaa jaz jaG jab jaT a0_s jaq jai jaO jaA jiO jiS jiY jaj jas jaJ jak jad jay jac jaT cyI jb0 a0_s cyI f0_s ja5 cyI jbv jbu cyI jbZ jbB cyI jca jbG cyI jcu jbg cyI jbR jbJ cyI jcx jiO cyI jjl jiY cyI jjp jiS cyI jjq) H → va_D A (qbN a0 jaX jaF jaD ja7 jby jbf jaM jaY jap jaK jal jam jax jao ja5 jaV jbJ jae jag jaf jaN jaC jbw jaw jaI jbG jbg jbB jan jbD jbu jar jaL jah jaB jaa jaz jaG jab jaT a0_s jaq jai jaO jaA jiO jiS jiY jaj jas jaJ jak jad jay jac jaT cyI jb0 a0_s cyI f0_s ja5 cyI jbv jbu cyI jbZ jbB cyI jca jbG cyI jcu jbg cyI jbR jbJ cyI jcx jiO cyI jjl jiY cyI jjp jiS cyI jjq) → va_S A s.heap H locs → lv_has ls 6 [(0, .ref a0), (1, .int l1), (2, .int l2)] → quN jaN jaC jbw jbD jb0 jbv jcu jbR jcx Q K99 n f0_s jbZ jca jjl jjp jjq l1 l2 → W p l e (headSpec wsX11_findSeats ({ frames := 7, cells := 0, slots := 0, locals := 160 })).room s m args below meth c H locs 0 0 (MQ below (va_Qv (fun (u : NI × NI × NI × NI × NI × NI) => Q u.1 u.2.1 u.2.2.1 u.2.2.2.1 u.2.2.2.2.1 u.2.2.2.2.2) (cB (dC, dI) (kT cyB cyI cyJ cyP) A (fun u : NI × NI × NI × NI × NI × NI => ((qbN a0 jaX jaF jaD ja7 jby jbf jaM jaY jap jaK jal jam jax jao ja5 jaV jbJ jae jag jaf jaN jaC jbw jaw jaI jbG jbg jbB jan jbD jbu jar jaL jah jaB jaa jaz jaG jab jaT a0_s jaq jai jaO jaA jiO jiS jiY jaj jas jaJ jak jad jay jac jaT cyI jb0 a0_s cyI u.1 ja5 cyI jbv jbu cyI u.2.1 jbB cyI u.2.2.1 jbG cyI jcu jbg cyI jbR jbJ cyI jcx jiO cyI u.2.2.2.1 jiY cyI u.2.2.2.2.1 jiS cyI u.2.2.2.2.2) : va_W))) A) args s 0 0 A) (F0 m 105 ls []) := by
  obtain ⟨hx, hb, hr, hts, hown, hlocks, hml, hA, hK, hNw⟩ := id C0
  intro n
  induction n with
  | zero => intro H locs ls f0_s jbZ jca jjl jjp jjq l1 l2 hP hD hS hl hw; exact False.elim hw
  | succ n ih =>
    intro H locs ls f0_s jbZ jca jjl jjp jjq l1 l2 hP hD hS hl hw
    refine lv_iload_n hx hb (qaa qcx 0 rfl) rfl (lv_at hl 2 rfl) ?_
    refine lv_iconst (v := 1) hx hb (qaa qcx 1 rfl) (by decide) ?_
    refine lv_aload_n hx hb (qaa qcx 2 rfl) rfl (lv_at hl 0 rfl) ?_
    refine va_get (D := (dC, dI)) (ci := 11) (v := .int jaN) (C := RX11) (T := TX11) (N := 55) hx hb hts qbu hown hK hP 0 rfl rfl 20 (by decide) (hts _ qxl) (fun _ h9 => h9) rfl (qaa qcx 3 rfl) ?_
    refine lv_ishl hx hb (qaa qcx 4 rfl) ?_
    refine lv_icmp_ge (tgt := 233) hx hb (qaa qcx 5 rfl) (by decide) (fun c23 => ?_) (fun c23 => ?_)
    · have hw := hw.1 c23
      obtain ⟨x24, ex24⟩ : ∃ y : Int32, y = l1 + (-1) := ⟨_, rfl⟩
      have hw := hw x24 ex24
      refine lv_iinc (v := x24) (lv' := [(1, .int x24), (0, .ref a0), (2, .int l2)]) hx hb (qaa qcr 7 rfl) hl (k := 1) rfl (by rw [ex24]; rfl) (by decide) rfl (fun ls hl => ?_)
      refine lv_goto (tgt := 99) hx hb (qaa qcr 8 rfl) (by decide) ?_
      exact hK99 _ _ _ f0_s jbZ jca jjl jjp jjq x24 hP hD hS (lv_sub hl [1, 0] rfl) hw
    · have hw := hw.2 c23
      refine lv_aload_n hx hb (qaa qcx 6 rfl) rfl (lv_at hl 0 rfl) ?_
      refine va_get (D := (dC, dI)) (ci := 11) (v := .ref jiO) (C := RX11) (T := TX11) (N := 55) hx hb hts qbu hown hK hP 0 rfl rfl 45 (by decide) (hts _ qqa) (fun _ h9 => h9) rfl (qaa qcx 7 rfl) ?_
      refine lv_iload_n hx hb (qaa qcx 8 rfl) rfl (lv_at hl 1 rfl) ?_
      refine lv_iconst (v := 1) hx hb (qaa qcx 9 rfl) (by decide) ?_
      refine lv_iadd hx hb (qaa qcx 10 rfl) ?_
      refine lv_topi (fun x25 ex25 => ?_)
      have hw := hw x25 ex25
      refine lv_bipush (v := 8) hx hb (qaa qcx 11 rfl) (by decide) ?_
      refine lv_ishl hx hb (qaa qcx 12 rfl) ?_
      refine lv_topi (fun x26 ex26 => ?_)
      have hw := hw x26 ex26
      refine lv_iload_n hx hb (qaa qcx 13 rfl) rfl (lv_at hl 2 rfl) ?_
      refine lv_ior hx hb (qaa qcx 14 rfl) ?_
      refine lv_topi (fun x27 ex27 => ?_)
      have hw := hw x27 ex27
      obtain ⟨hi9, hw⟩ := hw
      refine va_iald hx hb hK hP 9 1 rfl rfl hi9 (qaa qcx 15 rfl) ?_
      refine lv_topi (fun x28 ex28 => ?_)
      have hw := hw x28 ex28
      refine lv_istore_n (lv' := [(3, .int x28), (0, .ref a0), (1, .int l1), (2, .int l2)]) hx hb (qaa qcm 0 rfl) rfl hl (by decide) rfl (fun ls hl => ?_)
      refine lv_iconst (v := 0) hx hb (qaa qcm 1 rfl) (by decide) ?_
      refine lv_istore (lv' := [(4, .int 0), (3, .int x28), (0, .ref a0), (1, .int l1), (2, .int l2)]) hx hb (qaa qcm 2 rfl) hl (by decide) rfl (fun ls hl => ?_)
      obtain ⟨n9, hw⟩ := hw
      exact q6m dC dI cyB cyI cyJ cyP a0 jaT a0_s jiY ja5 jbu jbB jbG jbg jbJ jiO jiS jaX jaF jaD ja7 jby jbf jaM jaY jap jaK jal jam jax jao jaV jae jag jaf jaw jaI jan jar jaL jah jaB jaa jaz jaG jab jaq jai jaO jaA jaj jas jaJ jak jad jay jac jaN jaC jbw jbD jb0 jbv jcu jbR jcx Q K99 (quN jaN jaC jbw jbD jb0 jbv jcu jbR jcx Q K99 n) hK99 ih C0 n9 _ _ _ f0_s jbZ jca jjl jjp jjq l1 l2 x28 0 hP hD hS (lv_sub hl [2, 3, 4, 1, 0] rfl) hw
set_option maxHeartbeats 4000000 in
set_option maxRecDepth 100000 in
theorem qDp {p : Program} {l : Launch} {e : Env} {s : State} {m : MethodId} {args : Array Value} {below : List Frame} {meth : Method} {c : Code} {A : Nat → Prop} (dC : Nat → ClassId) (dI : Nat → Nat → Nat) (cyB cyI cyJ cyP : ClassId) (a0 jaT a0_s jiY ja5 jbu jbB jbG jbg jbJ jiO jiS : Nat) (jaX jaF jaD ja7 jby jbf jaM jaY jap jaK jal jam jax jao jaV jae jag jaf jaw jaI jan jar jaL jah jaB jaa jaz jaG jab jaq jai jaO jaA jaj jas jaJ jak jad jay jac : Value) (jaN jaC jbw jbD : Int32) (jb0 jbv jcu jbR jcx : NI) (Q : NI → NI → NI → NI → NI → NI → Prop) (K243 : NI → NI → NI → NI → NI → NI → Int32 → Int32 → Prop) (K265 : NI → NI → NI → NI → NI → NI → Int32 → Int32 → Int32 → Prop) (hK243 : ∀ (H : Heap) (locs : List Loc) (ls : Array Slot) (f0_s jbZ jca jjl jjp jjq : NI) (l1 l2 : Int32), va_P (dC, dI) vwCl (qbN a0 jaX jaF jaD ja7 jby jbf jaM jaY jap jaK jal jam jax jao ja5 jaV jbJ jae jag jaf jaN jaC jbw jaw jaI jbG jbg jbB jan jbD jbu jar jaL jah jaB jaa jaz jaG jab jaT a0_s jaq jai jaO jaA jiO jiS jiY jaj jas jaJ jak jad jay jac jaT cyI jb0 a0_s cyI f0_s ja5 cyI jbv jbu cyI jbZ jbB cyI jca jbG cyI jcu jbg cyI jbR jbJ cyI jcx jiO cyI jjl jiY cyI jjp jiS cyI jjq) H → va_D A (qbN a0 jaX jaF jaD ja7 jby jbf jaM jaY jap jaK jal jam jax jao ja5 jaV jbJ jae jag jaf jaN jaC jbw jaw jaI jbG jbg jbB jan jbD jbu jar jaL jah jaB jaa jaz jaG jab jaT a0_s jaq jai jaO jaA jiO jiS jiY jaj jas jaJ jak jad jay jac jaT cyI jb0 a0_s cyI f0_s ja5 cyI jbv jbu cyI jbZ jbB cyI jca jbG cyI jcu jbg cyI jbR jbJ cyI jcx jiO cyI jjl jiY cyI jjp jiS cyI jjq) → va_S A s.heap H locs → lv_has ls 6 [(0, .ref a0), (1, .int l1), (2, .int l2)] → K243 f0_s jbZ jca jjl jjp jjq l1 l2 → W p l e (headSpec wsX11_findSeats ({ frames := 7, cells := 0, slots := 0, locals := 160 })).room s m args below meth c H locs 0 0 (MQ below (va_Qv (fun (u : NI × NI × NI × NI × NI × NI) => Q u.1 u.2.1 u.2.2.1 u.2.2.2.1 u.2.2.2.2.1 u.2.2.2.2.2) (cB (dC, dI) (kT cyB cyI cyJ cyP) A (fun u : NI × NI × NI × NI × NI × NI => ((qbN a0 jaX jaF jaD ja7 jby jbf jaM jaY jap jaK jal jam jax jao ja5 jaV jbJ jae jag jaf jaN jaC jbw jaw jaI jbG jbg jbB jan jbD jbu jar jaL jah jaB jaa jaz jaG jab jaT a0_s jaq jai jaO jaA jiO jiS jiY jaj jas jaJ jak jad jay jac jaT cyI jb0 a0_s cyI u.1 ja5 cyI jbv jbu cyI u.2.1 jbB cyI u.2.2.1 jbG cyI jcu jbg cyI jbR jbJ cyI jcx jiO cyI u.2.2.2.1 jiY cyI u.2.2.2.2.1 jiS cyI u.2.2.2.2.2) : va_W))) A) args s 0 0 A) (F0 m 243 ls [])) (hK265 : ∀ (H : Heap) (locs : List Loc) (ls : Array Slot) (f0_s jbZ jca jjl jjp jjq : NI) (l1 l2 l3 : Int32), va_P (dC, dI) vwCl (qbN a0 jaX jaF jaD ja7 jby jbf jaM jaY jap jaK jal jam jax jao ja5 jaV jbJ jae jag jaf jaN jaC jbw jaw jaI jbG jbg jbB jan jbD jbu jar jaL jah jaB jaa jaz jaG jab jaT a0_s jaq jai jaO jaA jiO jiS jiY jaj jas jaJ jak jad jay jac jaT cyI jb0 a0_s cyI f0_s ja5 cyI jbv jbu cyI jbZ jbB cyI jca jbG cyI jcu jbg cyI jbR jbJ cyI jcx jiO cyI jjl jiY cyI jjp jiS cyI jjq) H → va_D A (qbN a0 jaX jaF jaD ja7 jby jbf jaM jaY jap jaK jal jam jax jao ja5 jaV jbJ jae jag jaf jaN jaC jbw jaw jaI jbG jbg jbB jan jbD jbu jar jaL jah jaB jaa jaz jaG jab jaT a0_s jaq jai jaO jaA jiO jiS jiY jaj jas jaJ jak jad jay jac jaT cyI jb0 a0_s cyI f0_s ja5 cyI jbv jbu cyI jbZ jbB cyI jca jbG cyI jcu jbg cyI jbR jbJ cyI jcx jiO cyI jjl jiY cyI jjp jiS cyI jjq) → va_S A s.heap H locs → lv_has ls 6 [(0, .ref a0), (1, .int l1), (2, .int l2), (3, .int l3)] → K265 f0_s jbZ jca jjl jjp jjq l1 l2 l3 → W p l e (headSpec wsX11_findSeats ({ frames := 7, cells := 0, slots := 0, locals := 160 })).room s m args below meth c H locs 0 0 (MQ below (va_Qv (fun (u : NI × NI × NI × NI × NI × NI) => Q u.1 u.2.1 u.2.2.1 u.2.2.2.1 u.2.2.2.2.1 u.2.2.2.2.2) (cB (dC, dI) (kT cyB cyI cyJ cyP) A (fun u : NI × NI × NI × NI × NI × NI => ((qbN a0 jaX jaF jaD ja7 jby jbf jaM jaY jap jaK jal jam jax jao ja5 jaV jbJ jae jag jaf jaN jaC jbw jaw jaI jbG jbg jbB jan jbD jbu jar jaL jah jaB jaa jaz jaG jab jaT a0_s jaq jai jaO jaA jiO jiS jiY jaj jas jaJ jak jad jay jac jaT cyI jb0 a0_s cyI u.1 ja5 cyI jbv jbu cyI u.2.1 jbB cyI u.2.2.1 jbG cyI jcu jbg cyI jbR jbJ cyI jcx jiO cyI u.2.2.2.1 jiY cyI u.2.2.2.2.1 jiS cyI u.2.2.2.2.2) : va_W))) A) args s 0 0 A) (F0 m 265 ls [])) (C0 : cfx p s m args meth c cX11_findSeats none wsX11_findSeats RX11 6 A (dC, dI) (kT cyB cyI cyJ cyP)) : ∀ (H : Heap) (locs : List Loc) (ls : Array Slot) (f0_s jbZ jca jjl jjp jjq : NI) (l1 l2 l3 : Int32), va_P (dC, dI) vwCl (qbN a0 jaX jaF jaD ja7 jby jbf jaM jaY jap jaK jal jam jax jao ja5 jaV jbJ jae jag jaf jaN jaC jbw jaw jaI jbG jbg jbB jan jbD jbu jar jaL jah jaB jaa jaz jaG jab jaT a0_s jaq jai jaO jaA jiO jiS jiY jaj jas jaJ jak jad jay jac jaT cyI jb0 a0_s cyI f0_s ja5 cyI jbv jbu cyI jbZ jbB cyI jca jbG cyI jcu jbg cyI jbR jbJ cyI jcx jiO cyI jjl jiY cyI jjp jiS cyI jjq) H → va_D A (qbN a0 jaX jaF jaD ja7 jby jbf jaM jaY jap jaK jal jam jax jao ja5 jaV jbJ jae jag jaf jaN jaC jbw jaw jaI jbG jbg jbB jan jbD jbu jar jaL jah jaB jaa jaz jaG jab jaT a0_s jaq jai jaO jaA jiO jiS jiY jaj jas jaJ jak jad jay jac jaT cyI jb0 a0_s cyI f0_s ja5 cyI jbv jbu cyI jbZ jbB cyI jca jbG cyI jcu jbg cyI jbR jbJ cyI jcx jiO cyI jjl jiY cyI jjp jiS cyI jjq) → va_S A s.heap H locs → lv_has ls 6 [(0, .ref a0), (1, .int l1), (2, .int l2), (3, .int l3)] → qx0 jaN jaC jbw jbD jb0 jbv jcu jbR jcx Q K243 K265 f0_s jbZ jca jjl jjp jjq l1 l2 l3 → W p l e (headSpec wsX11_findSeats ({ frames := 7, cells := 0, slots := 0, locals := 160 })).room s m args below meth c H locs 0 0 (MQ below (va_Qv (fun (u : NI × NI × NI × NI × NI × NI) => Q u.1 u.2.1 u.2.2.1 u.2.2.2.1 u.2.2.2.2.1 u.2.2.2.2.2) (cB (dC, dI) (kT cyB cyI cyJ cyP) A (fun u : NI × NI × NI × NI × NI × NI => ((qbN a0 jaX jaF jaD ja7 jby jbf jaM jaY jap jaK jal jam jax jao ja5 jaV jbJ jae jag jaf jaN jaC jbw jaw jaI jbG jbg jbB jan jbD jbu jar jaL jah jaB jaa jaz jaG jab jaT a0_s jaq jai jaO jaA jiO jiS jiY jaj jas jaJ jak jad jay jac jaT cyI jb0 a0_s cyI u.1 ja5 cyI jbv jbu cyI u.2.1 jbB cyI u.2.2.1 jbG cyI jcu jbg cyI jbR jbJ cyI jcx jiO cyI u.2.2.2.1 jiY cyI u.2.2.2.2.1 jiS cyI u.2.2.2.2.2) : va_W))) A) args s 0 0 A) (F0 m 327 ls []) := by
  obtain ⟨hx, hb, hr, hts, hown, hlocks, hml, hA, hK, hNw⟩ := id C0
  intro H locs ls f0_s jbZ jca jjl jjp jjq l1 l2 l3 hP hD hS hl hw
  obtain ⟨x68, ex68⟩ : ∃ y : Int32, y = l3 + (-1) := ⟨_, rfl⟩
  have hw := hw x68 ex68
  refine lv_iinc (v := x68) (lv' := [(3, .int x68), (0, .ref a0), (1, .int l1), (2, .int l2)]) hx hb (qaa qcl 9 rfl) hl (k := 3) rfl (by rw [ex68]; rfl) (by decide) rfl (fun ls hl => ?_)
  refine lv_goto (tgt := 265) hx hb (qaa qcl 10 rfl) (by decide) ?_
  exact hK265 _ _ _ f0_s jbZ jca jjl jjp jjq l1 l2 x68 hP hD hS (lv_sub hl [1, 2, 3, 0] rfl) hw
set_option maxHeartbeats 4000000 in
set_option maxRecDepth 100000 in
theorem qNB {p : Program} {l : Launch} {e : Env} {s : State} {m : MethodId} {args : Array Value} {below : List Frame} {meth : Method} {c : Code} {A : Nat → Prop} (dC : Nat → ClassId) (dI : Nat → Nat → Nat) (cyB cyI cyJ cyP : ClassId) (a0 jaT a0_s jiY ja5 jbu jbB jbG jbg jbJ jiO jiS : Nat) (jaX jaF jaD ja7 jby jbf jaM jaY jap jaK jal jam jax jao jaV jae jag jaf jaw jaI jan jar jaL jah jaB jaa jaz jaG jab jaq jai jaO jaA jaj jas jaJ jak jad jay jac : Value) (jaN jaC jbw jbD : Int32) (jb0 jbv jcu jbR jcx : NI) (Q : NI → NI → NI → NI → NI → NI → Prop) (K243 : NI → NI → NI → NI → NI → NI → Int32 → Int32 → Prop) (hK243 : ∀ (H : Heap) (locs : List Loc) (ls : Array Slot) (f0_s jbZ jca jjl jjp jjq : NI) (l1 l2 : Int32), va_P (dC, dI) vwCl (qbN a0 jaX jaF jaD ja7 jby jbf jaM jaY jap jaK jal jam jax jao ja5 jaV jbJ jae jag jaf jaN jaC jbw jaw jaI jbG jbg jbB jan jbD jbu jar jaL jah jaB jaa jaz jaG jab jaT a0_s jaq jai jaO jaA jiO jiS jiY jaj jas jaJ jak jad jay jac jaT cyI jb0 a0_s cyI f0_s ja5 cyI jbv jbu cyI jbZ jbB cyI jca jbG cyI jcu jbg cyI jbR jbJ cyI jcx jiO cyI jjl jiY cyI jjp jiS cyI jjq) H → va_D A (qbN a0 jaX jaF jaD ja7 jby jbf jaM jaY jap jaK jal jam jax jao ja5 jaV jbJ jae jag jaf jaN jaC jbw jaw jaI jbG jbg jbB jan jbD jbu jar jaL jah jaB jaa jaz jaG jab jaT a0_s jaq jai jaO jaA jiO jiS jiY jaj jas jaJ jak jad jay jac jaT cyI jb0 a0_s cyI f0_s ja5 cyI jbv jbu cyI jbZ jbB cyI jca jbG cyI jcu jbg cyI jbR jbJ cyI jcx jiO cyI jjl jiY cyI jjp jiS cyI jjq) → va_S A s.heap H locs → lv_has ls 6 [(0, .ref a0), (1, .int l1), (2, .int l2)] → K243 f0_s jbZ jca jjl jjp jjq l1 l2 → W p l e (headSpec wsX11_findSeats ({ frames := 7, cells := 0, slots := 0, locals := 160 })).room s m args below meth c H locs 0 0 (MQ below (va_Qv (fun (u : NI × NI × NI × NI × NI × NI) => Q u.1 u.2.1 u.2.2.1 u.2.2.2.1 u.2.2.2.2.1 u.2.2.2.2.2) (cB (dC, dI) (kT cyB cyI cyJ cyP) A (fun u : NI × NI × NI × NI × NI × NI => ((qbN a0 jaX jaF jaD ja7 jby jbf jaM jaY jap jaK jal jam jax jao ja5 jaV jbJ jae jag jaf jaN jaC jbw jaw jaI jbG jbg jbB jan jbD jbu jar jaL jah jaB jaa jaz jaG jab jaT a0_s jaq jai jaO jaA jiO jiS jiY jaj jas jaJ jak jad jay jac jaT cyI jb0 a0_s cyI u.1 ja5 cyI jbv jbu cyI u.2.1 jbB cyI u.2.2.1 jbG cyI jcu jbg cyI jbR jbJ cyI jcx jiO cyI u.2.2.2.1 jiY cyI u.2.2.2.2.1 jiS cyI u.2.2.2.2.2) : va_W))) A) args s 0 0 A) (F0 m 243 ls [])) (C0 : cfx p s m args meth c cX11_findSeats none wsX11_findSeats RX11 6 A (dC, dI) (kT cyB cyI cyJ cyP)) : ∀ (H : Heap) (locs : List Loc) (ls : Array Slot) (f0_s jbZ jca jjl jjp jjq : NI) (l1 l2 : Int32), va_P (dC, dI) vwCl (qbN a0 jaX jaF jaD ja7 jby jbf jaM jaY jap jaK jal jam jax jao ja5 jaV jbJ jae jag jaf jaN jaC jbw jaw jaI jbG jbg jbB jan jbD jbu jar jaL jah jaB jaa jaz jaG jab jaT a0_s jaq jai jaO jaA jiO jiS jiY jaj jas jaJ jak jad jay jac jaT cyI jb0 a0_s cyI f0_s ja5 cyI jbv jbu cyI jbZ jbB cyI jca jbG cyI jcu jbg cyI jbR jbJ cyI jcx jiO cyI jjl jiY cyI jjp jiS cyI jjq) H → va_D A (qbN a0 jaX jaF jaD ja7 jby jbf jaM jaY jap jaK jal jam jax jao ja5 jaV jbJ jae jag jaf jaN jaC jbw jaw jaI jbG jbg jbB jan jbD jbu jar jaL jah jaB jaa jaz jaG jab jaT a0_s jaq jai jaO jaA jiO jiS jiY jaj jas jaJ jak jad jay jac jaT cyI jb0 a0_s cyI f0_s ja5 cyI jbv jbu cyI jbZ jbB cyI jca jbG cyI jcu jbg cyI jbR jbJ cyI jcx jiO cyI jjl jiY cyI jjp jiS cyI jjq) → va_S A s.heap H locs → lv_has ls 6 [(0, .ref a0), (1, .int l1), (2, .int l2)] → qDG jaN jaC jbw jbD jb0 jbv jcu jbR jcx Q K243 f0_s jbZ jca jjl jjp jjq l1 l2 → W p l e (headSpec wsX11_findSeats ({ frames := 7, cells := 0, slots := 0, locals := 160 })).room s m args below meth c H locs 0 0 (MQ below (va_Qv (fun (u : NI × NI × NI × NI × NI × NI) => Q u.1 u.2.1 u.2.2.1 u.2.2.2.1 u.2.2.2.2.1 u.2.2.2.2.2) (cB (dC, dI) (kT cyB cyI cyJ cyP) A (fun u : NI × NI × NI × NI × NI × NI => ((qbN a0 jaX jaF jaD ja7 jby jbf jaM jaY jap jaK jal jam jax jao ja5 jaV jbJ jae jag jaf jaN jaC jbw jaw jaI jbG jbg jbB jan jbD jbu jar jaL jah jaB jaa jaz jaG jab jaT a0_s jaq jai jaO jaA jiO jiS jiY jaj jas jaJ jak jad jay jac jaT cyI jb0 a0_s cyI u.1 ja5 cyI jbv jbu cyI u.2.1 jbB cyI u.2.2.1 jbG cyI jcu jbg cyI jbR jbJ cyI jcx jiO cyI u.2.2.2.1 jiY cyI u.2.2.2.2.1 jiS cyI u.2.2.2.2.2) : va_W))) A) args s 0 0 A) (F0 m 354 ls []) := by
  obtain ⟨hx, hb, hr, hts, hown, hlocks, hml, hA, hK, hNw⟩ := id C0
  intro H locs ls f0_s jbZ jca jjl jjp jjq l1 l2 hP hD hS hl hw
  obtain ⟨x67, ex67⟩ : ∃ y : Int32, y = l2 + 1 := ⟨_, rfl⟩
  have hw := hw x67 ex67
  refine lv_iinc (v := x67) (lv' := [(2, .int x67), (0, .ref a0), (1, .int l1)]) hx hb (qaa qjp 7 rfl) hl (k := 2) rfl (by rw [ex67]; rfl) (by decide) rfl (fun ls hl => ?_)
  refine lv_goto (tgt := 243) hx hb (qaa qjp 8 rfl) (by decide) ?_
  exact hK243 _ _ _ f0_s jbZ jca jjl jjp jjq l1 x67 hP hD hS (lv_sub hl [1, 2, 0] rfl) hw
set_option maxHeartbeats 4000000 in
set_option maxRecDepth 100000 in
theorem q55 {p : Program} {l : Launch} {e : Env} {s : State} {m : MethodId} {args : Array Value} {below : List Frame} {meth : Method} {c : Code} {A : Nat → Prop} (dC : Nat → ClassId) (dI : Nat → Nat → Nat) (cyB cyI cyJ cyP : ClassId) (a0 jaT a0_s jiY ja5 jbu jbB jbG jbg jbJ jiO jiS : Nat) (jaX jaF jaD ja7 jby jbf jaM jaY jap jaK jal jam jax jao jaV jae jag jaf jaw jaI jan jar jaL jah jaB jaa jaz jaG jab jaq jai jaO jaA jaj jas jaJ jak jad jay jac : Value) (jaN jaC jbw jbD : Int32) (jb0 jbv jcu jbR jcx : NI) (Q : NI → NI → NI → NI → NI → NI → Prop) (K243 : NI → NI → NI → NI → NI → NI → Int32 → Int32 → Prop) (hK243 : ∀ (H : Heap) (locs : List Loc) (ls : Array Slot) (f0_s jbZ jca jjl jjp jjq : NI) (l1 l2 : Int32), va_P (dC, dI) vwCl (qbN a0 jaX jaF jaD ja7 jby jbf jaM jaY jap jaK jal jam jax jao ja5 jaV jbJ jae jag jaf jaN jaC jbw jaw jaI jbG jbg jbB jan jbD jbu jar jaL jah jaB jaa jaz jaG jab jaT a0_s jaq jai jaO jaA jiO jiS jiY jaj jas jaJ jak jad jay jac jaT cyI jb0 a0_s cyI f0_s ja5 cyI jbv jbu cyI jbZ jbB cyI jca jbG cyI jcu jbg cyI jbR jbJ cyI jcx jiO cyI jjl jiY cyI jjp jiS cyI jjq) H → va_D A (qbN a0 jaX jaF jaD ja7 jby jbf jaM jaY jap jaK jal jam jax jao ja5 jaV jbJ jae jag jaf jaN jaC jbw jaw jaI jbG jbg jbB jan jbD jbu jar jaL jah jaB jaa jaz jaG jab jaT a0_s jaq jai jaO jaA jiO jiS jiY jaj jas jaJ jak jad jay jac jaT cyI jb0 a0_s cyI f0_s ja5 cyI jbv jbu cyI jbZ jbB cyI jca jbG cyI jcu jbg cyI jbR jbJ cyI jcx jiO cyI jjl jiY cyI jjp jiS cyI jjq) → va_S A s.heap H locs → lv_has ls 6 [(0, .ref a0), (1, .int l1), (2, .int l2)] → K243 f0_s jbZ jca jjl jjp jjq l1 l2 → W p l e (headSpec wsX11_findSeats ({ frames := 7, cells := 0, slots := 0, locals := 160 })).room s m args below meth c H locs 0 0 (MQ below (va_Qv (fun (u : NI × NI × NI × NI × NI × NI) => Q u.1 u.2.1 u.2.2.1 u.2.2.2.1 u.2.2.2.2.1 u.2.2.2.2.2) (cB (dC, dI) (kT cyB cyI cyJ cyP) A (fun u : NI × NI × NI × NI × NI × NI => ((qbN a0 jaX jaF jaD ja7 jby jbf jaM jaY jap jaK jal jam jax jao ja5 jaV jbJ jae jag jaf jaN jaC jbw jaw jaI jbG jbg jbB jan jbD jbu jar jaL jah jaB jaa jaz jaG jab jaT a0_s jaq jai jaO jaA jiO jiS jiY jaj jas jaJ jak jad jay jac jaT cyI jb0 a0_s cyI u.1 ja5 cyI jbv jbu cyI u.2.1 jbB cyI u.2.2.1 jbG cyI jcu jbg cyI jbR jbJ cyI jcx jiO cyI u.2.2.2.1 jiY cyI u.2.2.2.2.1 jiS cyI u.2.2.2.2.2) : va_W))) A) args s 0 0 A) (F0 m 243 ls [])) (C0 : cfx p s m args meth c cX11_findSeats none wsX11_findSeats RX11 6 A (dC, dI) (kT cyB cyI cyJ cyP)) : ∀ (n : Nat) (H : Heap) (locs : List Loc) (ls : Array Slot) (f0_s jbZ jca jjl jjp jjq : NI) (l1 l2 l3 : Int32), va_P (dC, dI) vwCl (qbN a0 jaX jaF jaD ja7 jby jbf jaM jaY jap jaK jal jam jax jao ja5 jaV jbJ jae jag jaf jaN jaC jbw jaw jaI jbG jbg jbB jan jbD jbu jar jaL jah jaB jaa jaz jaG jab jaT a0_s jaq jai jaO jaA jiO jiS jiY jaj jas jaJ jak jad jay jac jaT cyI jb0 a0_s cyI f0_s ja5 cyI jbv jbu cyI jbZ jbB cyI jca jbG cyI jcu jbg cyI jbR jbJ cyI jcx jiO cyI jjl jiY cyI jjp jiS cyI jjq) H → va_D A (qbN a0 jaX jaF jaD ja7 jby jbf jaM jaY jap jaK jal jam jax jao ja5 jaV jbJ jae jag jaf jaN jaC jbw jaw jaI jbG jbg jbB jan jbD jbu jar jaL jah jaB jaa jaz jaG jab jaT a0_s jaq jai jaO jaA jiO jiS jiY jaj jas jaJ jak jad jay jac jaT cyI jb0 a0_s cyI f0_s ja5 cyI jbv jbu cyI jbZ jbB cyI jca jbG cyI jcu jbg cyI jbR jbJ cyI jcx jiO cyI jjl jiY cyI jjp jiS cyI jjq) → va_S A s.heap H locs → lv_has ls 6 [(0, .ref a0), (1, .int l1), (2, .int l2), (3, .int l3)] → qiI jaN jaC jbw jbD jb0 jbv jcu jbR jcx Q K243 n f0_s jbZ jca jjl jjp jjq l1 l2 l3 → W p l e (headSpec wsX11_findSeats ({ frames := 7, cells := 0, slots := 0, locals := 160 })).room s m args below meth c H locs 0 0 (MQ below (va_Qv (fun (u : NI × NI × NI × NI × NI × NI) => Q u.1 u.2.1 u.2.2.1 u.2.2.2.1 u.2.2.2.2.1 u.2.2.2.2.2) (cB (dC, dI) (kT cyB cyI cyJ cyP) A (fun u : NI × NI × NI × NI × NI × NI => ((qbN a0 jaX jaF jaD ja7 jby jbf jaM jaY jap jaK jal jam jax jao ja5 jaV jbJ jae jag jaf jaN jaC jbw jaw jaI jbG jbg jbB jan jbD jbu jar jaL jah jaB jaa jaz jaG jab jaT a0_s jaq jai jaO jaA jiO jiS jiY jaj jas jaJ jak jad jay jac jaT cyI jb0 a0_s cyI u.1 ja5 cyI jbv jbu cyI u.2.1 jbB cyI u.2.2.1 jbG cyI jcu jbg cyI jbR jbJ cyI jcx jiO cyI u.2.2.2.1 jiY cyI u.2.2.2.2.1 jiS cyI u.2.2.2.2.2) : va_W))) A) args s 0 0 A) (F0 m 265 ls []) := by
  obtain ⟨hx, hb, hr, hts, hown, hlocks, hml, hA, hK, hNw⟩ := id C0
  intro n
  induction n with
  | zero => intro H locs ls f0_s jbZ jca jjl jjp jjq l1 l2 l3 hP hD hS hl hw; exact False.elim hw
  | succ n ih =>
    intro H locs ls f0_s jbZ jca jjl jjp jjq l1 l2 l3 hP hD hS hl hw
    refine lv_iload_n hx hb (qaa qcp 11 rfl) rfl (lv_at hl 3 rfl) ?_
    refine lv_if_lt (tgt := 333) hx hb (qaa qcp 12 rfl) (by decide) (fun c29 => ?_) (fun c29 => ?_)
    · have hw := hw.1 c29
      refine lv_aload_n hx hb (qaa qcl 11 rfl) rfl (lv_at hl 0 rfl) ?_
      refine va_get (D := (dC, dI)) (ci := 11) (v := .ref jiS) (C := RX11) (T := TX11) (N := 55) hx hb hts qbu hown hK hP 0 rfl rfl 46 (by decide) (hts _ qx5) (fun _ h9 => h9) rfl (qaa qcl 12 rfl) ?_
      refine lv_iload_n hx hb (qaa qcl 13 rfl) rfl (lv_at hl 2 rfl) ?_
      obtain ⟨hi9, hw⟩ := hw
      refine va_iald hx hb hK hP 11 1 rfl rfl hi9 (qaa qcl 14 rfl) ?_
      refine lv_topi (fun x30 ex30 => ?_)
      have hw := hw x30 ex30
      refine lv_iconst (v := (-1)) hx hb (qaa qcl 15 rfl) (by decide) ?_
      refine lv_icmp_eq (tgt := 354) hx hb (qaa qDA 0 rfl) (by decide) (fun c31 => ?_) (fun c31 => ?_)
      · have hw := hw.1 c31
        exact qNB dC dI cyB cyI cyJ cyP a0 jaT a0_s jiY ja5 jbu jbB jbG jbg jbJ jiO jiS jaX jaF jaD ja7 jby jbf jaM jaY jap jaK jal jam jax jao jaV jae jag jaf jaw jaI jan jar jaL jah jaB jaa jaz jaG jab jaq jai jaO jaA jaj jas jaJ jak jad jay jac jaN jaC jbw jbD jb0 jbv jcu jbR jcx Q K243 hK243 C0 _ _ _ f0_s jbZ jca jjl jjp jjq l1 l2 hP hD hS (lv_sub hl [0, 1, 2] rfl) hw
      · have hw := hw.2 c31
        refine lv_iload_n hx hb (qaa qDA 1 rfl) rfl (lv_at hl 1 rfl) ?_
        refine lv_iconst (v := 1) hx hb (qaa qDA 2 rfl) (by decide) ?_
        refine lv_aload_n hx hb (qaa qjp 0 rfl) rfl (lv_at hl 0 rfl) ?_
        refine va_get (D := (dC, dI)) (ci := 11) (v := .ref jiS) (C := RX11) (T := TX11) (N := 55) hx hb hts qbu hown hK hP 0 rfl rfl 46 (by decide) (hts _ qx5) (fun _ h9 => h9) rfl (qaa qjp 1 rfl) ?_
        refine lv_iload_n hx hb (qaa qjp 2 rfl) rfl (lv_at hl 2 rfl) ?_
        obtain ⟨hi9, hw⟩ := hw
        refine va_iald hx hb hK hP 11 1 rfl rfl hi9 (qaa qjp 3 rfl) ?_
        refine lv_topi (fun x32 ex32 => ?_)
        have hw := hw x32 ex32
        refine lv_ishl hx hb (qaa qjp 4 rfl) ?_
        refine lv_ior hx hb (qaa qjp 5 rfl) ?_
        refine lv_topi (fun x33 ex33 => ?_)
        have hw := hw x33 ex33
        refine lv_istore_n (lv' := [(1, .int x33), (0, .ref a0), (2, .int l2), (3, .int l3)]) hx hb (qaa qjp 6 rfl) rfl hl (by decide) rfl (fun ls hl => ?_)
        exact qNB dC dI cyB cyI cyJ cyP a0 jaT a0_s jiY ja5 jbu jbB jbG jbg jbJ jiO jiS jaX jaF jaD ja7 jby jbf jaM jaY jap jaK jal jam jax jao jaV jae jag jaf jaw jaI jan jar jaL jah jaB jaa jaz jaG jab jaq jai jaO jaA jaj jas jaJ jak jad jay jac jaN jaC jbw jbD jb0 jbv jcu jbR jcx Q K243 hK243 C0 _ _ _ f0_s jbZ jca jjl jjp jjq x33 l2 hP hD hS (lv_sub hl [1, 0, 2] rfl) hw
    · have hw := hw.2 c29
      refine lv_aload_n hx hb (qaa qcp 13 rfl) rfl (lv_at hl 0 rfl) ?_
      refine va_get (D := (dC, dI)) (ci := 11) (v := .ref jiY) (C := RX11) (T := TX11) (N := 55) hx hb hts qbu hown hK hP 0 rfl rfl 47 (by decide) (hts _ qDL) (fun _ h9 => h9) rfl (qaa qcp 14 rfl) ?_
      refine lv_iload_n hx hb (qaa qcp 15 rfl) rfl (lv_at hl 2 rfl) ?_
      obtain ⟨hi9, hw⟩ := hw
      refine va_iald hx hb hK hP 10 1 rfl rfl hi9 (qaa qco 0 rfl) ?_
      refine lv_topi (fun x34 ex34 => ?_)
      have hw := hw x34 ex34
      refine lv_iload_n hx hb (qaa qco 1 rfl) rfl (lv_at hl 1 rfl) ?_
      refine lv_iconst (v := (-1)) hx hb (qaa qco 2 rfl) (by decide) ?_
      refine lv_ixor hx hb (qaa qco 3 rfl) ?_
      refine lv_iand hx hb (qaa qco 4 rfl) ?_
      refine lv_iload_n hx hb (qaa qco 5 rfl) rfl (lv_at hl 3 rfl) ?_
      refine lv_ishr hx hb (qaa qco 6 rfl) ?_
      refine lv_iconst (v := 1) hx hb (qaa qco 7 rfl) (by decide) ?_
      refine lv_iand hx hb (qaa qco 8 rfl) ?_
      refine lv_topi (fun x35 ex35 => ?_)
      have hw := hw x35 ex35
      refine lv_iconst (v := 1) hx hb (qaa qco 9 rfl) (by decide) ?_
      refine lv_icmp_ne (tgt := 327) hx hb (qaa qco 10 rfl) (by decide) (fun c36 => ?_) (fun c36 => ?_)
      · have hw := hw.1 c36
        exact qDp dC dI cyB cyI cyJ cyP a0 jaT a0_s jiY ja5 jbu jbB jbG jbg jbJ jiO jiS jaX jaF jaD ja7 jby jbf jaM jaY jap jaK jal jam jax jao jaV jae jag jaf jaw jaI jan jar jaL jah jaB jaa jaz jaG jab jaq jai jaO jaA jaj jas jaJ jak jad jay jac jaN jaC jbw jbD jb0 jbv jcu jbR jcx Q K243 (qiI jaN jaC jbw jbD jb0 jbv jcu jbR jcx Q K243 n) hK243 ih C0 _ _ _ f0_s jbZ jca jjl jjp jjq l1 l2 l3 hP hD hS (lv_sub hl [0, 1, 2, 3] rfl) hw
      · have hw := hw.2 c36
        refine lv_iconst (v := 1) hx hb (qaa qco 11 rfl) (by decide) ?_
        refine lv_aload_n hx hb (qaa qco 12 rfl) rfl (lv_at hl 0 rfl) ?_
        refine va_get (D := (dC, dI)) (ci := 11) (v := .ref jiO) (C := RX11) (T := TX11) (N := 55) hx hb hts qbu hown hK hP 0 rfl rfl 45 (by decide) (hts _ qqa) (fun _ h9 => h9) rfl (qaa qco 13 rfl) ?_
        refine lv_iload_n hx hb (qaa qco 14 rfl) rfl (lv_at hl 2 rfl) ?_
        refine lv_iconst (v := 1) hx hb (qaa qco 15 rfl) (by decide) ?_
        refine lv_iadd hx hb (qaa qci 0 rfl) ?_
        refine lv_topi (fun x37 ex37 => ?_)
        have hw := hw x37 ex37
        refine lv_bipush (v := 8) hx hb (qaa qci 1 rfl) (by decide) ?_
        refine lv_ishl hx hb (qaa qci 2 rfl) ?_
        refine lv_topi (fun x38 ex38 => ?_)
        have hw := hw x38 ex38
        refine lv_iload_n hx hb (qaa qci 3 rfl) rfl (lv_at hl 1 rfl) ?_
        refine lv_ior hx hb (qaa qci 4 rfl) ?_
        refine lv_topi (fun x39 ex39 => ?_)
        have hw := hw x39 ex39
        refine lv_iconst (v := 1) hx hb (qaa qci 5 rfl) (by decide) ?_
        refine lv_iload_n hx hb (qaa qci 6 rfl) rfl (lv_at hl 3 rfl) ?_
        refine lv_ishl hx hb (qaa qci 7 rfl) ?_
        refine lv_ior hx hb (qaa qci 8 rfl) ?_
        refine lv_topi (fun x40 ex40 => ?_)
        have hw := hw x40 ex40
        obtain ⟨hi9, hw⟩ := hw
        refine va_iald hx hb hK hP 9 1 rfl rfl hi9 (qaa qci 9 rfl) ?_
        refine lv_topi (fun x41 ex41 => ?_)
        have hw := hw x41 ex41
        refine lv_iadd hx hb (qaa qci 10 rfl) ?_
        refine lv_aload_n hx hb (qaa qci 11 rfl) rfl (lv_at hl 0 rfl) ?_
        refine va_get (D := (dC, dI)) (ci := 11) (v := .ref jiO) (C := RX11) (T := TX11) (N := 55) hx hb hts qbu hown hK hP 0 rfl rfl 45 (by decide) (hts _ qqa) (fun _ h9 => h9) rfl (qaa qci 12 rfl) ?_
        refine lv_iload_n hx hb (qaa qci 13 rfl) rfl (lv_at hl 2 rfl) ?_
        refine lv_bipush (v := 8) hx hb (qaa qci 14 rfl) (by decide) ?_
        refine lv_ishl hx hb (qaa qci 15 rfl) ?_
        refine lv_topi (fun x42 ex42 => ?_)
        have hw := hw x42 ex42
        refine lv_iload_n hx hb (qaa qcl 0 rfl) rfl (lv_at hl 1 rfl) ?_
        refine lv_ior hx hb (qaa qcl 1 rfl) ?_
        refine lv_topi (fun x43 ex43 => ?_)
        have hw := hw x43 ex43
        obtain ⟨hi9, hw⟩ := hw
        refine va_iald hx hb hK hP 9 1 rfl rfl hi9 (qaa qcl 2 rfl) ?_
        refine lv_topi (fun x44 ex44 => ?_)
        have hw := hw x44 ex44
        refine lv_icmp_ne (tgt := 327) hx hb (qaa qcl 3 rfl) (by decide) (fun c45 => ?_) (fun c45 => ?_)
        · have hw := hw.1 c45
          exact qDp dC dI cyB cyI cyJ cyP a0 jaT a0_s jiY ja5 jbu jbB jbG jbg jbJ jiO jiS jaX jaF jaD ja7 jby jbf jaM jaY jap jaK jal jam jax jao jaV jae jag jaf jaw jaI jan jar jaL jah jaB jaa jaz jaG jab jaq jai jaO jaA jaj jas jaJ jak jad jay jac jaN jaC jbw jbD jb0 jbv jcu jbR jcx Q K243 (qiI jaN jaC jbw jbD jb0 jbv jcu jbR jcx Q K243 n) hK243 ih C0 _ _ _ f0_s jbZ jca jjl jjp jjq l1 l2 l3 hP hD hS (lv_sub hl [0, 1, 2, 3] rfl) hw
        · have hw := hw.2 c45
          refine lv_aload_n hx hb (qaa qcl 4 rfl) rfl (lv_at hl 0 rfl) ?_
          refine va_get (D := (dC, dI)) (ci := 11) (v := .ref jiS) (C := RX11) (T := TX11) (N := 55) hx hb hts qbu hown hK hP 0 rfl rfl 46 (by decide) (hts _ qx5) (fun _ h9 => h9) rfl (qaa qcl 5 rfl) ?_
          refine lv_iload_n hx hb (qaa qcl 6 rfl) rfl (lv_at hl 2 rfl) ?_
          refine lv_iload_n hx hb (qaa qcl 7 rfl) rfl (lv_at hl 3 rfl) ?_
          obtain ⟨hi9, hw⟩ := hw
          refine va_iast hx hb hK hP hD hS 11 1 rfl rfl hi9 (qaa qcl 8 rfl) (fun H locs hP hD hS => ?_)
          obtain ⟨f46, ef46⟩ : ∃ y : NI, y = upd jjq l2.toNatClampNeg l3 := ⟨_, rfl⟩
          have hw := hw f46 ef46
          have hP : va_P (dC, dI) vwCl (qbN a0 jaX jaF jaD ja7 jby jbf jaM jaY jap jaK jal jam jax jao ja5 jaV jbJ jae jag jaf jaN jaC jbw jaw jaI jbG jbg jbB jan jbD jbu jar jaL jah jaB jaa jaz jaG jab jaT a0_s jaq jai jaO jaA jiO jiS jiY jaj jas jaJ jak jad jay jac jaT cyI jb0 a0_s cyI f0_s ja5 cyI jbv jbu cyI jbZ jbB cyI jca jbG cyI jcu jbg cyI jbR jbJ cyI jcx jiO cyI jjl jiY cyI jjp jiS cyI f46) H := by rw [ef46]; exact hP
          have hD : va_D A (qbN a0 jaX jaF jaD ja7 jby jbf jaM jaY jap jaK jal jam jax jao ja5 jaV jbJ jae jag jaf jaN jaC jbw jaw jaI jbG jbg jbB jan jbD jbu jar jaL jah jaB jaa jaz jaG jab jaT a0_s jaq jai jaO jaA jiO jiS jiY jaj jas jaJ jak jad jay jac jaT cyI jb0 a0_s cyI f0_s ja5 cyI jbv jbu cyI jbZ jbB cyI jca jbG cyI jcu jbg cyI jbR jbJ cyI jcx jiO cyI jjl jiY cyI jjp jiS cyI f46) := by rw [ef46]; exact hD
          exact qDp dC dI cyB cyI cyJ cyP a0 jaT a0_s jiY ja5 jbu jbB jbG jbg jbJ jiO jiS jaX jaF jaD ja7 jby jbf jaM jaY jap jaK jal jam jax jao jaV jae jag jaf jaw jaI jan jar jaL jah jaB jaa jaz jaG jab jaq jai jaO jaA jaj jas jaJ jak jad jay jac jaN jaC jbw jbD jb0 jbv jcu jbR jcx Q K243 (qiI jaN jaC jbw jbD jb0 jbv jcu jbR jcx Q K243 n) hK243 ih C0 _ _ _ f0_s jbZ jca jjl jjp f46 l1 l2 l3 hP hD hS (lv_sub hl [0, 1, 2, 3] rfl) hw
set_option maxHeartbeats 4000000 in
set_option maxRecDepth 100000 in
theorem q6n {p : Program} {l : Launch} {e : Env} {s : State} {m : MethodId} {args : Array Value} {below : List Frame} {meth : Method} {c : Code} {A : Nat → Prop} (dC : Nat → ClassId) (dI : Nat → Nat → Nat) (cyB cyI cyJ cyP : ClassId) (a0 jaT a0_s jiY ja5 jbu jbB jbG jbg jbJ jiO jiS : Nat) (jaX jaF jaD ja7 jby jbf jaM jaY jap jaK jal jam jax jao jaV jae jag jaf jaw jaI jan jar jaL jah jaB jaa jaz jaG jab jaq jai jaO jaA jaj jas jaJ jak jad jay jac : Value) (jaN jaC jbw jbD : Int32) (jb0 jbv jcu jbR jcx : NI) (Q : NI → NI → NI → NI → NI → NI → Prop) (C0 : cfx p s m args meth c cX11_findSeats none wsX11_findSeats RX11 6 A (dC, dI) (kT cyB cyI cyJ cyP)) : ∀ (n : Nat) (H : Heap) (locs : List Loc) (ls : Array Slot) (f0_s jbZ jca jjl jjp jjq : NI) (l1 l2 : Int32), va_P (dC, dI) vwCl (qbN a0 jaX jaF jaD ja7 jby jbf jaM jaY jap jaK jal jam jax jao ja5 jaV jbJ jae jag jaf jaN jaC jbw jaw jaI jbG jbg jbB jan jbD jbu jar jaL jah jaB jaa jaz jaG jab jaT a0_s jaq jai jaO jaA jiO jiS jiY jaj jas jaJ jak jad jay jac jaT cyI jb0 a0_s cyI f0_s ja5 cyI jbv jbu cyI jbZ jbB cyI jca jbG cyI jcu jbg cyI jbR jbJ cyI jcx jiO cyI jjl jiY cyI jjp jiS cyI jjq) H → va_D A (qbN a0 jaX jaF jaD ja7 jby jbf jaM jaY jap jaK jal jam jax jao ja5 jaV jbJ jae jag jaf jaN jaC jbw jaw jaI jbG jbg jbB jan jbD jbu jar jaL jah jaB jaa jaz jaG jab jaT a0_s jaq jai jaO jaA jiO jiS jiY jaj jas jaJ jak jad jay jac jaT cyI jb0 a0_s cyI f0_s ja5 cyI jbv jbu cyI jbZ jbB cyI jca jbG cyI jcu jbg cyI jbR jbJ cyI jcx jiO cyI jjl jiY cyI jjp jiS cyI jjq) → va_S A s.heap H locs → lv_has ls 6 [(0, .ref a0), (1, .int l1), (2, .int l2)] → quS jaN jaC jbw jbD jb0 jbv jcu jbR jcx Q n f0_s jbZ jca jjl jjp jjq l1 l2 → W p l e (headSpec wsX11_findSeats ({ frames := 7, cells := 0, slots := 0, locals := 160 })).room s m args below meth c H locs 0 0 (MQ below (va_Qv (fun (u : NI × NI × NI × NI × NI × NI) => Q u.1 u.2.1 u.2.2.1 u.2.2.2.1 u.2.2.2.2.1 u.2.2.2.2.2) (cB (dC, dI) (kT cyB cyI cyJ cyP) A (fun u : NI × NI × NI × NI × NI × NI => ((qbN a0 jaX jaF jaD ja7 jby jbf jaM jaY jap jaK jal jam jax jao ja5 jaV jbJ jae jag jaf jaN jaC jbw jaw jaI jbG jbg jbB jan jbD jbu jar jaL jah jaB jaa jaz jaG jab jaT a0_s jaq jai jaO jaA jiO jiS jiY jaj jas jaJ jak jad jay jac jaT cyI jb0 a0_s cyI u.1 ja5 cyI jbv jbu cyI u.2.1 jbB cyI u.2.2.1 jbG cyI jcu jbg cyI jbR jbJ cyI jcx jiO cyI u.2.2.2.1 jiY cyI u.2.2.2.2.1 jiS cyI u.2.2.2.2.2) : va_W))) A) args s 0 0 A) (F0 m 243 ls []) := by
  obtain ⟨hx, hb, hr, hts, hown, hlocks, hml, hA, hK, hNw⟩ := id C0
  intro n
  induction n with
  | zero => intro H locs ls f0_s jbZ jca jjl jjp jjq l1 l2 hP hD hS hl hw; exact False.elim hw
  | succ n ih =>
    intro H locs ls f0_s jbZ jca jjl jjp jjq l1 l2 hP hD hS hl hw
    refine lv_iload_n hx hb (qaa qcr 13 rfl) rfl (lv_at hl 2 rfl) ?_
    refine lv_aload_n hx hb (qaa qcr 14 rfl) rfl (lv_at hl 0 rfl) ?_
    refine va_get (D := (dC, dI)) (ci := 11) (v := .int jaC) (C := RX11) (T := TX11) (N := 55) hx hb hts qbu hown hK hP 0 rfl rfl 21 (by decide) (hts _ qwX) (fun _ h9 => h9) rfl (qaa qcr 15 rfl) ?_
    refine lv_icmp_ge (tgt := 360) hx hb (qaa qcp 0 rfl) (by decide) (fun c20 => ?_) (fun c20 => ?_)
    · have hw := hw.1 c20
      exact ((W.vret hx hb hr (fun t ht hW => ⟨⟨(f0_s, jbZ, jca, jjl, jjp, jjq), rfl, hw, by rw [ht]; exact hP, va_K.moved hW.alike hK, hD⟩, hS.F ht⟩) hS.2.2 (qaa qjp 9 rfl)))
    · have hw := hw.2 c20
      refine lv_aload_n hx hb (qaa qcp 1 rfl) rfl (lv_at hl 0 rfl) ?_
      refine va_get (D := (dC, dI)) (ci := 11) (v := .ref jiS) (C := RX11) (T := TX11) (N := 55) hx hb hts qbu hown hK hP 0 rfl rfl 46 (by decide) (hts _ qx5) (fun _ h9 => h9) rfl (qaa qcp 2 rfl) ?_
      refine lv_iload_n hx hb (qaa qcp 3 rfl) rfl (lv_at hl 2 rfl) ?_
      refine lv_iconst (v := (-1)) hx hb (qaa qcp 4 rfl) (by decide) ?_
      obtain ⟨hi9, hw⟩ := hw
      refine va_iast hx hb hK hP hD hS 11 1 rfl rfl hi9 (qaa qcp 5 rfl) (fun H locs hP hD hS => ?_)
      obtain ⟨f21, ef21⟩ : ∃ y : NI, y = upd jjq l2.toNatClampNeg (-1) := ⟨_, rfl⟩
      have hw := hw f21 ef21
      have hP : va_P (dC, dI) vwCl (qbN a0 jaX jaF jaD ja7 jby jbf jaM jaY jap jaK jal jam jax jao ja5 jaV jbJ jae jag jaf jaN jaC jbw jaw jaI jbG jbg jbB jan jbD jbu jar jaL jah jaB jaa jaz jaG jab jaT a0_s jaq jai jaO jaA jiO jiS jiY jaj jas jaJ jak jad jay jac jaT cyI jb0 a0_s cyI f0_s ja5 cyI jbv jbu cyI jbZ jbB cyI jca jbG cyI jcu jbg cyI jbR jbJ cyI jcx jiO cyI jjl jiY cyI jjp jiS cyI f21) H := by rw [ef21]; exact hP
      have hD : va_D A (qbN a0 jaX jaF jaD ja7 jby jbf jaM jaY jap jaK jal jam jax jao ja5 jaV jbJ jae jag jaf jaN jaC jbw jaw jaI jbG jbg jbB jan jbD jbu jar jaL jah jaB jaa jaz jaG jab jaT a0_s jaq jai jaO jaA jiO jiS jiY jaj jas jaJ jak jad jay jac jaT cyI jb0 a0_s cyI f0_s ja5 cyI jbv jbu cyI jbZ jbB cyI jca jbG cyI jcu jbg cyI jbR jbJ cyI jcx jiO cyI jjl jiY cyI jjp jiS cyI f21) := by rw [ef21]; exact hD
      refine lv_aload_n hx hb (qaa qcp 6 rfl) rfl (lv_at hl 0 rfl) ?_
      refine va_get (D := (dC, dI)) (ci := 11) (v := .int jaN) (C := RX11) (T := TX11) (N := 55) hx hb hts qbu hown hK hP 0 rfl rfl 20 (by decide) (hts _ qxl) (fun _ h9 => h9) rfl (qaa qcp 7 rfl) ?_
      refine lv_iconst (v := 1) hx hb (qaa qcp 8 rfl) (by decide) ?_
      refine lv_isub hx hb (qaa qcp 9 rfl) ?_
      refine lv_topi (fun x22 ex22 => ?_)
      have hw := hw x22 ex22
      refine lv_istore_n (lv' := [(3, .int x22), (0, .ref a0), (1, .int l1), (2, .int l2)]) hx hb (qaa qcp 10 rfl) rfl hl (by decide) rfl (fun ls hl => ?_)
      obtain ⟨n9, hw⟩ := hw
      exact q55 dC dI cyB cyI cyJ cyP a0 jaT a0_s jiY ja5 jbu jbB jbG jbg jbJ jiO jiS jaX jaF jaD ja7 jby jbf jaM jaY jap jaK jal jam jax jao jaV jae jag jaf jaw jaI jan jar jaL jah jaB jaa jaz jaG jab jaq jai jaO jaA jaj jas jaJ jak jad jay jac jaN jaC jbw jbD jb0 jbv jcu jbR jcx Q (quS jaN jaC jbw jbD jb0 jbv jcu jbR jcx Q n) ih C0 n9 _ _ _ f0_s jbZ jca jjl jjp f21 l1 l2 x22 hP hD hS (lv_sub hl [1, 2, 3, 0] rfl) hw
set_option maxHeartbeats 4000000 in
set_option maxRecDepth 100000 in
theorem q8s {p : Program} {l : Launch} {e : Env} {s : State} {m : MethodId} {args : Array Value} {below : List Frame} {meth : Method} {c : Code} {A : Nat → Prop} (dC : Nat → ClassId) (dI : Nat → Nat → Nat) (cyB cyI cyJ cyP : ClassId) (a0 jaT a0_s jiY ja5 jbu jbB jbG jbg jbJ jiO jiS : Nat) (jaX jaF jaD ja7 jby jbf jaM jaY jap jaK jal jam jax jao jaV jae jag jaf jaw jaI jan jar jaL jah jaB jaa jaz jaG jab jaq jai jaO jaA jaj jas jaJ jak jad jay jac : Value) (jaN jaC jbw jbD : Int32) (jb0 jbv jcu jbR jcx : NI) (Q : NI → NI → NI → NI → NI → NI → Prop) (C0 : cfx p s m args meth c cX11_findSeats none wsX11_findSeats RX11 6 A (dC, dI) (kT cyB cyI cyJ cyP)) : ∀ (n : Nat) (H : Heap) (locs : List Loc) (ls : Array Slot) (f0_s jbZ jca jjl jjp jjq : NI) (l1 : Int32), va_P (dC, dI) vwCl (qbN a0 jaX jaF jaD ja7 jby jbf jaM jaY jap jaK jal jam jax jao ja5 jaV jbJ jae jag jaf jaN jaC jbw jaw jaI jbG jbg jbB jan jbD jbu jar jaL jah jaB jaa jaz jaG jab jaT a0_s jaq jai jaO jaA jiO jiS jiY jaj jas jaJ jak jad jay jac jaT cyI jb0 a0_s cyI f0_s ja5 cyI jbv jbu cyI jbZ jbB cyI jca jbG cyI jcu jbg cyI jbR jbJ cyI jcx jiO cyI jjl jiY cyI jjp jiS cyI jjq) H → va_D A (qbN a0 jaX jaF jaD ja7 jby jbf jaM jaY jap jaK jal jam jax jao ja5 jaV jbJ jae jag jaf jaN jaC jbw jaw jaI jbG jbg jbB jan jbD jbu jar jaL jah jaB jaa jaz jaG jab jaT a0_s jaq jai jaO jaA jiO jiS jiY jaj jas jaJ jak jad jay jac jaT cyI jb0 a0_s cyI f0_s ja5 cyI jbv jbu cyI jbZ jbB cyI jca jbG cyI jcu jbg cyI jbR jbJ cyI jcx jiO cyI jjl jiY cyI jjp jiS cyI jjq) → va_S A s.heap H locs → lv_has ls 6 [(0, .ref a0), (1, .int l1)] → qvW jaN jaC jbw jbD jb0 jbv jcu jbR jcx Q n f0_s jbZ jca jjl jjp jjq l1 → W p l e (headSpec wsX11_findSeats ({ frames := 7, cells := 0, slots := 0, locals := 160 })).room s m args below meth c H locs 0 0 (MQ below (va_Qv (fun (u : NI × NI × NI × NI × NI × NI) => Q u.1 u.2.1 u.2.2.1 u.2.2.2.1 u.2.2.2.2.1 u.2.2.2.2.2) (cB (dC, dI) (kT cyB cyI cyJ cyP) A (fun u : NI × NI × NI × NI × NI × NI => ((qbN a0 jaX jaF jaD ja7 jby jbf jaM jaY jap jaK jal jam jax jao ja5 jaV jbJ jae jag jaf jaN jaC jbw jaw jaI jbG jbg jbB jan jbD jbu jar jaL jah jaB jaa jaz jaG jab jaT a0_s jaq jai jaO jaA jiO jiS jiY jaj jas jaJ jak jad jay jac jaT cyI jb0 a0_s cyI u.1 ja5 cyI jbv jbu cyI u.2.1 jbB cyI u.2.2.1 jbG cyI jcu jbg cyI jbR jbJ cyI jcx jiO cyI u.2.2.2.1 jiY cyI u.2.2.2.2.1 jiS cyI u.2.2.2.2.2) : va_W))) A) args s 0 0 A) (F0 m 99 ls []) := by
  obtain ⟨hx, hb, hr, hts, hown, hlocks, hml, hA, hK, hNw⟩ := id C0
  intro n
  induction n with
  | zero => intro H locs ls f0_s jbZ jca jjl jjp jjq l1 hP hD hS hl hw; exact False.elim hw
  | succ n ih =>
    intro H locs ls f0_s jbZ jca jjl jjp jjq l1 hP hD hS hl hw
    refine lv_iload_n hx hb (qaa qcV 12 rfl) rfl (lv_at hl 1 rfl) ?_
    refine lv_if_lt (tgt := 239) hx hb (qaa qcV 13 rfl) (by decide) (fun c19 => ?_) (fun c19 => ?_)
    · have hw := hw.1 c19
      refine lv_iconst (v := 0) hx hb (qaa qcr 9 rfl) (by decide) ?_
      refine lv_istore_n (lv' := [(1, .int 0), (0, .ref a0)]) hx hb (qaa qcr 10 rfl) rfl hl (by decide) rfl (fun ls hl => ?_)
      refine lv_iconst (v := 0) hx hb (qaa qcr 11 rfl) (by decide) ?_
      refine lv_istore_n (lv' := [(2, .int 0), (1, .int 0), (0, .ref a0)]) hx hb (qaa qcr 12 rfl) rfl hl (by decide) rfl (fun ls hl => ?_)
      obtain ⟨n9, hw⟩ := hw
      exact q6n dC dI cyB cyI cyJ cyP a0 jaT a0_s jiY ja5 jbu jbB jbG jbg jbJ jiO jiS jaX jaF jaD ja7 jby jbf jaM jaY jap jaK jal jam jax jao jaV jae jag jaf jaw jaI jan jar jaL jah jaB jaa jaz jaG jab jaq jai jaO jaA jaj jas jaJ jak jad jay jac jaN jaC jbw jbD jb0 jbv jcu jbR jcx Q C0 n9 _ _ _ f0_s jbZ jca jjl jjp jjq 0 0 hP hD hS (lv_sub hl [2, 1, 0] rfl) hw
    · have hw := hw.2 c19
      refine lv_iconst (v := 0) hx hb (qaa qcV 14 rfl) (by decide) ?_
      refine lv_istore_n (lv' := [(2, .int 0), (0, .ref a0), (1, .int l1)]) hx hb (qaa qcV 15 rfl) rfl hl (by decide) rfl (fun ls hl => ?_)
      obtain ⟨n9, hw⟩ := hw
      exact q6S dC dI cyB cyI cyJ cyP a0 jaT a0_s jiY ja5 jbu jbB jbG jbg jbJ jiO jiS jaX jaF jaD ja7 jby jbf jaM jaY jap jaK jal jam jax jao jaV jae jag jaf jaw jaI jan jar jaL jah jaB jaa jaz jaG jab jaq jai jaO jaA jaj jas jaJ jak jad jay jac jaN jaC jbw jbD jb0 jbv jcu jbR jcx Q (qvW jaN jaC jbw jbD jb0 jbv jcu jbR jcx Q n) ih C0 n9 _ _ _ f0_s jbZ jca jjl jjp jjq l1 0 hP hD hS (lv_sub hl [1, 2, 0] rfl) hw
set_option maxHeartbeats 4000000 in
set_option maxRecDepth 100000 in
theorem qaa2 {p : Program} {l : Launch} {e : Env} {s : State} {m : MethodId} {args : Array Value} {below : List Frame} {meth : Method} {c : Code} {A : Nat → Prop} (dC : Nat → ClassId) (dI : Nat → Nat → Nat) (cyB cyI cyJ cyP : ClassId) (a0 jaT a0_s jiY ja5 jbu jbB jbG jbg jbJ jiO jiS : Nat) (jaX jaF jaD ja7 jby jbf jaM jaY jap jaK jal jam jax jao jaV jae jag jaf jaw jaI jan jar jaL jah jaB jaa jaz jaG jab jaq jai jaO jaA jaj jas jaJ jak jad jay jac : Value) (jaN jaC jbw jbD : Int32) (jb0 jbv jcu jbR jcx : NI) (Q : NI → NI → NI → NI → NI → NI → Prop) (C0 : cfx p s m args meth c cX11_findSeats none wsX11_findSeats RX11 6 A (dC, dI) (kT cyB cyI cyJ cyP)) : ∀ (n : Nat) (H : Heap) (locs : List Loc) (ls : Array Slot) (f0_s jbZ jca jjl jjp jjq : NI) (l1 : Int32), va_P (dC, dI) vwCl (qbN a0 jaX jaF jaD ja7 jby jbf jaM jaY jap jaK jal jam jax jao ja5 jaV jbJ jae jag jaf jaN jaC jbw jaw jaI jbG jbg jbB jan jbD jbu jar jaL jah jaB jaa jaz jaG jab jaT a0_s jaq jai jaO jaA jiO jiS jiY jaj jas jaJ jak jad jay jac jaT cyI jb0 a0_s cyI f0_s ja5 cyI jbv jbu cyI jbZ jbB cyI jca jbG cyI jcu jbg cyI jbR jbJ cyI jcx jiO cyI jjl jiY cyI jjp jiS cyI jjq) H → va_D A (qbN a0 jaX jaF jaD ja7 jby jbf jaM jaY jap jaK jal jam jax jao ja5 jaV jbJ jae jag jaf jaN jaC jbw jaw jaI jbG jbg jbB jan jbD jbu jar jaL jah jaB jaa jaz jaG jab jaT a0_s jaq jai jaO jaA jiO jiS jiY jaj jas jaJ jak jad jay jac jaT cyI jb0 a0_s cyI f0_s ja5 cyI jbv jbu cyI jbZ jbB cyI jca jbG cyI jcu jbg cyI jbR jbJ cyI jcx jiO cyI jjl jiY cyI jjp jiS cyI jjq) → va_S A s.heap H locs → lv_has ls 6 [(0, .ref a0), (1, .int l1)] → qzc jaN jaC jbw jbD jb0 jbv jcu jbR jcx Q n f0_s jbZ jca jjl jjp jjq l1 → W p l e (headSpec wsX11_findSeats ({ frames := 7, cells := 0, slots := 0, locals := 160 })).room s m args below meth c H locs 0 0 (MQ below (va_Qv (fun (u : NI × NI × NI × NI × NI × NI) => Q u.1 u.2.1 u.2.2.1 u.2.2.2.1 u.2.2.2.2.1 u.2.2.2.2.2) (cB (dC, dI) (kT cyB cyI cyJ cyP) A (fun u : NI × NI × NI × NI × NI × NI => ((qbN a0 jaX jaF jaD ja7 jby jbf jaM jaY jap jaK jal jam jax jao ja5 jaV jbJ jae jag jaf jaN jaC jbw jaw jaI jbG jbg jbB jan jbD jbu jar jaL jah jaB jaa jaz jaG jab jaT a0_s jaq jai jaO jaA jiO jiS jiY jaj jas jaJ jak jad jay jac jaT cyI jb0 a0_s cyI u.1 ja5 cyI jbv jbu cyI u.2.1 jbB cyI u.2.2.1 jbG cyI jcu jbg cyI jbR jbJ cyI jcx jiO cyI u.2.2.2.1 jiY cyI u.2.2.2.2.1 jiS cyI u.2.2.2.2.2) : va_W))) A) args s 0 0 A) (F0 m 61 ls []) := by
  obtain ⟨hx, hb, hr, hts, hown, hlocks, hml, hA, hK, hNw⟩ := id C0
  intro n
  induction n with
  | zero => intro H locs ls f0_s jbZ jca jjl jjp jjq l1 hP hD hS hl hw; exact False.elim hw
  | succ n ih =>
    intro H locs ls f0_s jbZ jca jjl jjp jjq l1 hP hD hS hl hw
    refine lv_iload_n hx hb (qaa qcL 5 rfl) rfl (lv_at hl 1 rfl) ?_
    refine lv_iconst (v := 1) hx hb (qaa qcL 6 rfl) (by decide) ?_
    refine lv_aload_n hx hb (qaa qcL 7 rfl) rfl (lv_at hl 0 rfl) ?_
    refine va_get (D := (dC, dI)) (ci := 11) (v := .int jaN) (C := RX11) (T := TX11) (N := 55) hx hb hts qbu hown hK hP 0 rfl rfl 20 (by decide) (hts _ qxl) (fun _ h9 => h9) rfl (qaa qcL 8 rfl) ?_
    refine lv_ishl hx hb (qaa qcL 9 rfl) ?_
    refine lv_icmp_ge (tgt := 92) hx hb (qaa qcL 10 rfl) (by decide) (fun c11 => ?_) (fun c11 => ?_)
    · have hw := hw.1 c11
      refine lv_aload_n hx hb (qaa qcV 7 rfl) rfl (lv_at hl 0 rfl) ?_
      refine va_get (D := (dC, dI)) (ci := 11) (v := .int jaC) (C := RX11) (T := TX11) (N := 55) hx hb hts qbu hown hK hP 0 rfl rfl 21 (by decide) (hts _ qwX) (fun _ h9 => h9) rfl (qaa qcV 8 rfl) ?_
      refine lv_iconst (v := 1) hx hb (qaa qcV 9 rfl) (by decide) ?_
      refine lv_isub hx hb (qaa qcV 10 rfl) ?_
      refine lv_topi (fun x12 ex12 => ?_)
      have hw := hw x12 ex12
      refine lv_istore_n (lv' := [(1, .int x12), (0, .ref a0)]) hx hb (qaa qcV 11 rfl) rfl hl (by decide) rfl (fun ls hl => ?_)
      obtain ⟨n9, hw⟩ := hw
      exact q8s dC dI cyB cyI cyJ cyP a0 jaT a0_s jiY ja5 jbu jbB jbG jbg jbJ jiO jiS jaX jaF jaD ja7 jby jbf jaM jaY jap jaK jal jam jax jao jaV jae jag jaf jaw jaI jan jar jaL jah jaB jaa jaz jaG jab jaq jai jaO jaA jaj jas jaJ jak jad jay jac jaN jaC jbw jbD jb0 jbv jcu jbR jcx Q C0 n9 _ _ _ f0_s jbZ jca jjl jjp jjq x12 hP hD hS (lv_sub hl [1, 0] rfl) hw
    · have hw := hw.2 c11
      refine lv_aload_n hx hb (qaa qcL 11 rfl) rfl (lv_at hl 0 rfl) ?_
      refine va_get (D := (dC, dI)) (ci := 11) (v := .ref jiO) (C := RX11) (T := TX11) (N := 55) hx hb hts qbu hown hK hP 0 rfl rfl 45 (by decide) (hts _ qqa) (fun _ h9 => h9) rfl (qaa qcL 12 rfl) ?_
      refine lv_aload_n hx hb (qaa qcL 13 rfl) rfl (lv_at hl 0 rfl) ?_
      refine va_get (D := (dC, dI)) (ci := 11) (v := .int jaC) (C := RX11) (T := TX11) (N := 55) hx hb hts qbu hown hK hP 0 rfl rfl 21 (by decide) (hts _ qwX) (fun _ h9 => h9) rfl (qaa qcL 14 rfl) ?_
      refine lv_bipush (v := 8) hx hb (qaa qcL 15 rfl) (by decide) ?_
      refine lv_ishl hx hb (qaa qcV 0 rfl) ?_
      refine lv_topi (fun x13 ex13 => ?_)
      have hw := hw x13 ex13
      refine lv_iload_n hx hb (qaa qcV 1 rfl) rfl (lv_at hl 1 rfl) ?_
      refine lv_ior hx hb (qaa qcV 2 rfl) ?_
      refine lv_topi (fun x14 ex14 => ?_)
      have hw := hw x14 ex14
      refine lv_iconst (v := 0) hx hb (qaa qcV 3 rfl) (by decide) ?_
      obtain ⟨hi9, hw⟩ := hw
      refine va_iast hx hb hK hP hD hS 9 1 rfl rfl hi9 (qaa qcV 4 rfl) (fun H locs hP hD hS => ?_)
      obtain ⟨f15, ef15⟩ : ∃ y : NI, y = upd jjl x14.toNatClampNeg 0 := ⟨_, rfl⟩
      have hw := hw f15 ef15
      have hP : va_P (dC, dI) vwCl (qbN a0 jaX jaF jaD ja7 jby jbf jaM jaY jap jaK jal jam jax jao ja5 jaV jbJ jae jag jaf jaN jaC jbw jaw jaI jbG jbg jbB jan jbD jbu jar jaL jah jaB jaa jaz jaG jab jaT a0_s jaq jai jaO jaA jiO jiS jiY jaj jas jaJ jak jad jay jac jaT cyI jb0 a0_s cyI f0_s ja5 cyI jbv jbu cyI jbZ jbB cyI jca jbG cyI jcu jbg cyI jbR jbJ cyI jcx jiO cyI f15 jiY cyI jjp jiS cyI jjq) H := by rw [ef15]; exact hP
      have hD : va_D A (qbN a0 jaX jaF jaD ja7 jby jbf jaM jaY jap jaK jal jam jax jao ja5 jaV jbJ jae jag jaf jaN jaC jbw jaw jaI jbG jbg jbB jan jbD jbu jar jaL jah jaB jaa jaz jaG jab jaT a0_s jaq jai jaO jaA jiO jiS jiY jaj jas jaJ jak jad jay jac jaT cyI jb0 a0_s cyI f0_s ja5 cyI jbv jbu cyI jbZ jbB cyI jca jbG cyI jcu jbg cyI jbR jbJ cyI jcx jiO cyI f15 jiY cyI jjp jiS cyI jjq) := by rw [ef15]; exact hD
      obtain ⟨x16, ex16⟩ : ∃ y : Int32, y = l1 + 1 := ⟨_, rfl⟩
      have hw := hw x16 ex16
      refine lv_iinc (v := x16) (lv' := [(1, .int x16), (0, .ref a0)]) hx hb (qaa qcV 5 rfl) hl (k := 1) rfl (by rw [ex16]; rfl) (by decide) rfl (fun ls hl => ?_)
      refine lv_goto (tgt := 61) hx hb (qaa qcV 6 rfl) (by decide) ?_
      exact ih _ _ _ f0_s jbZ jca f15 jjp jjq x16 hP hD hS (lv_sub hl [1, 0] rfl) hw
set_option maxHeartbeats 4000000 in
set_option maxRecDepth 100000 in
theorem qaeq {p : Program} {l : Launch} {e : Env} {s : State} {m : MethodId} {args : Array Value} {below : List Frame} {meth : Method} {c : Code} {A : Nat → Prop} (dC : Nat → ClassId) (dI : Nat → Nat → Nat) (cyB cyI cyJ cyP : ClassId) (a0 jaT a0_s jiY ja5 jbu jbB jbG jbg jbJ jiO jiS : Nat) (jaX jaF jaD ja7 jby jbf jaM jaY jap jaK jal jam jax jao jaV jae jag jaf jaw jaI jan jar jaL jah jaB jaa jaz jaG jab jaq jai jaO jaA jaj jas jaJ jak jad jay jac : Value) (jaN jaC jbw jbD : Int32) (jb0 jbv jcu jbR jcx : NI) (Q : NI → NI → NI → NI → NI → NI → Prop) (C0 : cfx p s m args meth c cX11_findSeats none wsX11_findSeats RX11 6 A (dC, dI) (kT cyB cyI cyJ cyP)) : ∀ (n : Nat) (H : Heap) (locs : List Loc) (ls : Array Slot) (f0_s jbZ jca jjl jjp jjq : NI) (l1 : Int32), va_P (dC, dI) vwCl (qbN a0 jaX jaF jaD ja7 jby jbf jaM jaY jap jaK jal jam jax jao ja5 jaV jbJ jae jag jaf jaN jaC jbw jaw jaI jbG jbg jbB jan jbD jbu jar jaL jah jaB jaa jaz jaG jab jaT a0_s jaq jai jaO jaA jiO jiS jiY jaj jas jaJ jak jad jay jac jaT cyI jb0 a0_s cyI f0_s ja5 cyI jbv jbu cyI jbZ jbB cyI jca jbG cyI jcu jbg cyI jbR jbJ cyI jcx jiO cyI jjl jiY cyI jjp jiS cyI jjq) H → va_D A (qbN a0 jaX jaF jaD ja7 jby jbf jaM jaY jap jaK jal jam jax jao ja5 jaV jbJ jae jag jaf jaN jaC jbw jaw jaI jbG jbg jbB jan jbD jbu jar jaL jah jaB jaa jaz jaG jab jaT a0_s jaq jai jaO jaA jiO jiS jiY jaj jas jaJ jak jad jay jac jaT cyI jb0 a0_s cyI f0_s ja5 cyI jbv jbu cyI jbZ jbB cyI jca jbG cyI jcu jbg cyI jbR jbJ cyI jcx jiO cyI jjl jiY cyI jjp jiS cyI jjq) → va_S A s.heap H locs → lv_has ls 6 [(0, .ref a0), (1, .int l1)] → qsa jaN jaC jbw jbD jb0 jbv jcu jbR jcx Q n f0_s jbZ jca jjl jjp jjq l1 → W p l e (headSpec wsX11_findSeats ({ frames := 7, cells := 0, slots := 0, locals := 160 })).room s m args below meth c H locs 0 0 (MQ below (va_Qv (fun (u : NI × NI × NI × NI × NI × NI) => Q u.1 u.2.1 u.2.2.1 u.2.2.2.1 u.2.2.2.2.1 u.2.2.2.2.2) (cB (dC, dI) (kT cyB cyI cyJ cyP) A (fun u : NI × NI × NI × NI × NI × NI => ((qbN a0 jaX jaF jaD ja7 jby jbf jaM jaY jap jaK jal jam jax jao ja5 jaV jbJ jae jag jaf jaN jaC jbw jaw jaI jbG jbg jbB jan jbD jbu jar jaL jah jaB jaa jaz jaG jab jaT a0_s jaq jai jaO jaA jiO jiS jiY jaj jas jaJ jak jad jay jac jaT cyI jb0 a0_s cyI u.1 ja5 cyI jbv jbu cyI u.2.1 jbB cyI u.2.2.1 jbG cyI jcu jbg cyI jbR jbJ cyI jcx jiO cyI u.2.2.2.1 jiY cyI u.2.2.2.2.1 jiS cyI u.2.2.2.2.2) : va_W))) A) args s 0 0 A) (F0 m 6 ls []) := by
  obtain ⟨hx, hb, hr, hts, hown, hlocks, hml, hA, hK, hNw⟩ := id C0
  intro n
  induction n with
  | zero => intro H locs ls f0_s jbZ jca jjl jjp jjq l1 hP hD hS hl hw; exact False.elim hw
  | succ n ih =>
    intro H locs ls f0_s jbZ jca jjl jjp jjq l1 hP hD hS hl hw
    refine lv_iload_n hx hb (qaa qdi 4 rfl) rfl (lv_at hl 1 rfl) ?_
    refine lv_aload_n hx hb (qaa qdi 5 rfl) rfl (lv_at hl 0 rfl) ?_
    refine va_get (D := (dC, dI)) (ci := 11) (v := .int jaC) (C := RX11) (T := TX11) (N := 55) hx hb hts qbu hown hK hP 0 rfl rfl 21 (by decide) (hts _ qwX) (fun _ h9 => h9) rfl (qaa qdi 6 rfl) ?_
    refine lv_icmp_ge (tgt := 59) hx hb (qaa qdi 7 rfl) (by decide) (fun c2 => ?_) (fun c2 => ?_)
    · have hw := hw.1 c2
      refine lv_iconst (v := 0) hx hb (qaa qcL 3 rfl) (by decide) ?_
      refine lv_istore_n (lv' := [(1, .int 0), (0, .ref a0)]) hx hb (qaa qcL 4 rfl) rfl hl (by decide) rfl (fun ls hl => ?_)
      obtain ⟨n9, hw⟩ := hw
      exact qaa2 dC dI cyB cyI cyJ cyP a0 jaT a0_s jiY ja5 jbu jbB jbG jbg jbJ jiO jiS jaX jaF jaD ja7 jby jbf jaM jaY jap jaK jal jam jax jao jaV jae jag jaf jaw jaI jan jar jaL jah jaB jaa jaz jaG jab jaq jai jaO jaA jaj jas jaJ jak jad jay jac jaN jaC jbw jbD jb0 jbv jcu jbR jcx Q C0 n9 _ _ _ f0_s jbZ jca jjl jjp jjq 0 hP hD hS (lv_sub hl [1, 0] rfl) hw
    · have hw := hw.2 c2
      refine lv_aload_n hx hb (qaa qdi 8 rfl) rfl (lv_at hl 0 rfl) ?_
      refine va_get (D := (dC, dI)) (ci := 11) (v := .ref jiY) (C := RX11) (T := TX11) (N := 55) hx hb hts qbu hown hK hP 0 rfl rfl 47 (by decide) (hts _ qDL) (fun _ h9 => h9) rfl (qaa qdi 9 rfl) ?_
      refine lv_iload_n hx hb (qaa qdi 10 rfl) rfl (lv_at hl 1 rfl) ?_
      refine lv_aload_n hx hb (qaa qdi 11 rfl) rfl (lv_at hl 0 rfl) ?_
      refine lv_iload_n hx hb (qaa qdi 12 rfl) rfl (lv_at hl 1 rfl) ?_
      obtain ⟨hCc, hPc, hDc, hFc⟩ := qac (ws' := (qa5g a0 jaX jaF jaD ja7 jby jbf jaM jaY jap jaK jal jam jax jao ja5 jaV jbJ jae jag jaf jaN jaC jbw jaw jaI jbG jbg jbB jan jbD jbu jar jaL jah jaB jaa jaz jaG jab jaT a0_s jaq jai jaO jaA jiO jiS jiY jaj jas jaJ jak jad jay jac a0_s cyI f0_s)) hP hD hS hA [0, 2] (by decide +kernel) rfl
      refine va_calli (va_runV (As := [.int l1]) (rest := [.int l1, .ref jiY]) ⟨hx, hb, hml, hown, hts⟩ (qil l dC dI cyB cyI cyJ cyP a0 a0_s H.size (jaX) (jaF) (jaD) (ja7) (jby) (jbf) (jaM) (jaY) (jap) (jaK) (jal) (jam) (jax) (jao) (.ref ja5) (jaV) (.ref jbJ) (jae) (jag) (jaf) (.int jaN) (.int jaC) (.int jbw) (jaw) (jaI) (.ref jbG) (.ref jbg) (.ref jbB) (jan) (.int jbD) (.ref jbu) (jar) (jaL) (jah) (jaB) (jaa) (jaz) (jaG) (jab) (.ref jaT) (jaq) (jai) (jaO) (jaA) (.ref jiO) (.ref jiS) (.ref jiY) (jaj) (jas) (jaJ) (jak) (jad) (jay) (jac) f0_s l1 hw) (cwV 1 hts gX11_findSeats_X11_isCaught rfl rfl rfl (by decide +kernel) ⟨nbq rfl, nbq rfl⟩) ⟨qab, va_recv (q := (RX11, TX11, 55)) hK hPc (ci := 11) (q0 := 0) rfl rfl, qae hPc hK hDc hNw⟩ rfl rfl hl.1 rfl (lv_room (nbq rfl)) (qaa qdi 13 rfl) ⟨nbq rfl, nbq rfl⟩) hS (fun q _ h => hFc q h) hFc (fun r3 u t H1 locs ht hvm hw hB hz1 hk1 hS => ?_)
      obtain ⟨hP1, hK1, hD1⟩ := hB
      rw [ht] at hP1
      obtain ⟨hP, hD⟩ := qad (wr := [(jaT, .inl (cyI, 68, .inl jb0)), (ja5, .inl (cyI, 16, .inl jbv)), (jbu, .inl (cyI, 8, .inl jbZ)), (jbB, .inl (cyI, 150, .inl jca)), (jbG, .inl (cyI, 150, .inl jcu)), (jbg, .inl (cyI, 150, .inl jbR)), (jbJ, .inl (cyI, 8, .inl jcx)), (jiO, .inl (cyI, 1792, .inl jjl)), (jiY, .inl (cyI, 6, .inl jjp)), (jiS, .inl (cyI, 6, .inl jjq))]) (w1 := (qa5g a0 jaX jaF jaD ja7 jby jbf jaM jaY jap jaK jal jam jax jao ja5 jaV jbJ jae jag jaf jaN jaC jbw jaw jaI jbG jbg jbB jan jbD jbu jar jaL jah jaB jaa jaz jaG jab jaT a0_s jaq jai jaO jaA jiO jiS jiY jaj jas jaJ jak jad jay jac a0_s cyI f0_s)) (wn := (qbN a0 jaX jaF jaD ja7 jby jbf jaM jaY jap jaK jal jam jax jao ja5 jaV jbJ jae jag jaf jaN jaC jbw jaw jaI jbG jbg jbB jan jbD jbu jar jaL jah jaB jaa jaz jaG jab jaT a0_s jaq jai jaO jaA jiO jiS jiY jaj jas jaJ jak jad jay jac jaT cyI jb0 a0_s cyI f0_s ja5 cyI jbv jbu cyI jbZ jbB cyI jca jbG cyI jcu jbg cyI jbR jbJ cyI jcx jiO cyI jjl jiY cyI jjp jiS cyI jjq)) hP hD [0, 2] [1, 3, 4, 5, 6, 7, 8, 9, 10, 11] [10, 0, 11, 1, 2, 3, 4, 5, 6, 7, 8, 9] hCc rfl (by decide +kernel) (by decide +kernel) (by decide +kernel) rfl hk1 hFc hP1 hD1
      generalize H1 = H at hP hS ⊢
      refine lv_if_eq (tgt := 31) hx hb (qaa qdi 14 rfl) (by decide) (fun c4 => ?_) (fun c4 => ?_)
      · have hw := hw.1 c4
        refine lv_aload_n hx hb (qaa qcK 1 rfl) rfl (lv_at hl 0 rfl) ?_
        refine lv_iload_n hx hb (qaa qcK 2 rfl) rfl (lv_at hl 1 rfl) ?_
        obtain ⟨hCc, hPc, hDc, hFc⟩ := qac (ws' := (qa26 a0 jaX jaF jaD ja7 jby jbf jaM jaY jap jaK jal jam jax jao ja5 jaV jbJ jae jag jaf jaN jaC jbw jaw jaI jbG jbg jbB jan jbD jbu jar jaL jah jaB jaa jaz jaG jab jaT a0_s jaq jai jaO jaA jiO jiS jiY jaj jas jaJ jak jad jay jac a0_s cyI f0_s ja5 cyI jbv jbu cyI jbZ jbB cyI jca jbG cyI jcu jbg cyI jbR)) hP hD hS hA [0, 2, 3, 4, 5, 6, 7] (by decide +kernel) rfl
        refine va_calli (va_runV (As := [.int l1]) (rest := [.int l1, .ref jiY]) ⟨hx, hb, hml, hown, hts⟩ (q7K l dC dI cyB cyI cyJ cyP a0 a0_s ja5 jbu jbB jbG jbg H.size (jaX) (jaF) (jaD) (ja7) (jby) (jbf) (jaM) (jaY) (jap) (jaK) (jal) (jam) (jax) (jao) (jaV) (.ref jbJ) (jae) (jag) (jaf) (.int jbw) (jaw) (jaI) (jan) (jar) (jaL) (jah) (jaB) (jaa) (jaz) (jaG) (jab) (.ref jaT) (jaq) (jai) (jaO) (jaA) (.ref jiO) (.ref jiS) (.ref jiY) (jaj) (jas) (jaJ) (jak) (jad) (jay) (jac) jaN jaC jbD f0_s jbv jcu jbR jbZ jca l1 hw) (cwV 1 hts gX11_findSeats_X11_rangeOf rfl rfl rfl (by decide +kernel) ⟨nbq rfl, nbq rfl⟩) ⟨qab, va_recv (q := (RX11, TX11, 55)) hK hPc (ci := 11) (q0 := 0) rfl rfl, qae hPc hK hDc hNw⟩ rfl rfl hl.1 rfl (lv_room (nbq rfl)) (qaa qcK 3 rfl) ⟨nbq rfl, nbq rfl⟩) hS (fun q _ h => hFc q h) hFc (fun r7 u t H1 locs ht hvm hw hB hz1 hk1 hS => ?_)
        obtain ⟨f5, f6⟩ := u
        obtain ⟨hP1, hK1, hD1⟩ := hB
        rw [ht] at hP1
        obtain ⟨hP, hD⟩ := qad (wr := [(jaT, .inl (cyI, 68, .inl jb0)), (jbJ, .inl (cyI, 8, .inl jcx)), (jiO, .inl (cyI, 1792, .inl jjl)), (jiY, .inl (cyI, 6, .inl jjp)), (jiS, .inl (cyI, 6, .inl jjq))]) (w1 := (qa26 a0 jaX jaF jaD ja7 jby jbf jaM jaY jap jaK jal jam jax jao ja5 jaV jbJ jae jag jaf jaN jaC jbw jaw jaI jbG jbg jbB jan jbD jbu jar jaL jah jaB jaa jaz jaG jab jaT a0_s jaq jai jaO jaA jiO jiS jiY jaj jas jaJ jak jad jay jac a0_s cyI f0_s ja5 cyI jbv jbu cyI f5 jbB cyI f6 jbG cyI jcu jbg cyI jbR)) (wn := (qbN a0 jaX jaF jaD ja7 jby jbf jaM jaY jap jaK jal jam jax jao ja5 jaV jbJ jae jag jaf jaN jaC jbw jaw jaI jbG jbg jbB jan jbD jbu jar jaL jah jaB jaa jaz jaG jab jaT a0_s jaq jai jaO jaA jiO jiS jiY jaj jas jaJ jak jad jay jac jaT cyI jb0 a0_s cyI f0_s ja5 cyI jbv jbu cyI f5 jbB cyI f6 jbG cyI jcu jbg cyI jbR jbJ cyI jcx jiO cyI jjl jiY cyI jjp jiS cyI jjq)) hP hD [0, 2, 3, 4, 5, 6, 7] [1, 8, 9, 10, 11] [5, 0, 6, 7, 8, 9, 10, 11, 1, 2, 3, 4] hCc rfl (by decide +kernel) (by decide +kernel) (by decide +kernel) rfl hk1 hFc hP1 hD1
        generalize H1 = H at hP hS ⊢
        refine lv_iconst (v := 1) hx hb (qaa qcK 4 rfl) (by decide) ?_
        refine lv_aload_n hx hb (qaa qcK 5 rfl) rfl (lv_at hl 0 rfl) ?_
        refine va_get (D := (dC, dI)) (ci := 11) (v := .ref a0_s) (C := RX11) (T := TX11) (N := 55) hx hb hts qbu hown hK hP 0 rfl rfl 40 (by decide) (hts _ q63) (fun _ h9 => h9) rfl (qaa qcK 6 rfl) ?_
        refine lv_iconst (v := 0) hx hb (qaa qcK 7 rfl) (by decide) ?_
        refine lv_iload_n hx hb (qaa qcK 8 rfl) rfl (lv_at hl 1 rfl) ?_
        refine lv_iadd hx hb (qaa qcK 9 rfl) ?_
        refine lv_topi (fun x8 ex8 => ?_)
        have hw := hw x8 ex8
        obtain ⟨hi9, hw⟩ := hw
        refine va_iald hx hb hK hP 2 1 rfl rfl hi9 (qaa qcK 10 rfl) ?_
        refine lv_topi (fun x9 ex9 => ?_)
        have hw := hw x9 ex9
        refine lv_ishl hx hb (qaa qcK 11 rfl) ?_
        refine lv_ior hx hb (qaa qcK 12 rfl) ?_
        refine lv_aload_n hx hb (qaa qcK 13 rfl) rfl (lv_at hl 0 rfl) ?_
        obtain ⟨hCc, hPc, hDc, hFc⟩ := qac (ws' := (qa4l a0 jaX jaF jaD ja7 jby jbf jaM jaY jap jaK jal jam jax jao ja5 jaV jbJ jae jag jaf jaN jaC jbw jaw jaI jbG jbg jbB jan jbD jbu jar jaL jah jaB jaa jaz jaG jab jaT a0_s jaq jai jaO jaA jiO jiS jiY jaj jas jaJ jak jad jay jac ja5 cyI jbv jbJ cyI jcx)) hP hD hS hA [0, 3, 8] (by decide +kernel) rfl
        refine va_calli (va_runV (As := []) (rest := [.int (r7 ||| (1 <<< (x9 &&& 31))), .int l1, .ref jiY]) ⟨hx, hb, hml, hown, hts⟩ (qZM l dC dI cyB cyI cyJ cyP a0 ja5 jbJ H.size (jaX) (jaF) (jaD) (ja7) (jby) (jbf) (jaM) (jaY) (jap) (jaK) (jal) (jam) (jax) (jao) (jaV) (jae) (jag) (jaf) (.int jaC) (jaw) (jaI) (.ref jbG) (.ref jbg) (.ref jbB) (jan) (.int jbD) (.ref jbu) (jar) (jaL) (jah) (jaB) (jaa) (jaz) (jaG) (jab) (.ref jaT) (.ref a0_s) (jaq) (jai) (jaO) (jaA) (.ref jiO) (.ref jiS) (.ref jiY) (jaj) (jas) (jaJ) (jak) (jad) (jay) (jac) jaN jbw jbv jcx hw) (cwV 0 hts gX11_findSeats_X11_safeForms rfl rfl rfl (by decide +kernel) ⟨nbq rfl, nbq rfl⟩) ⟨qab, va_recv (q := (RX11, TX11, 55)) hK hPc (ci := 11) (q0 := 0) rfl rfl, qae hPc hK hDc hNw⟩ rfl rfl hl.1 rfl (lv_room (nbq rfl)) (qaa qcK 14 rfl) ⟨nbq rfl, nbq rfl⟩) hS (fun q _ h => hFc q h) hFc (fun r10 u t H1 locs ht hvm hw hB hz1 hk1 hS => ?_)
        obtain ⟨hP1, hK1, hD1⟩ := hB
        rw [ht] at hP1
        obtain ⟨hP, hD⟩ := qad (wr := [(jaT, .inl (cyI, 68, .inl jb0)), (a0_s, .inl (cyI, 68, .inl f0_s)), (jbu, .inl (cyI, 8, .inl f5)), (jbB, .inl (cyI, 150, .inl f6)), (jbG, .inl (cyI, 150, .inl jcu)), (jbg, .inl (cyI, 150, .inl jbR)), (jiO, .inl (cyI, 1792, .inl jjl)), (jiY, .inl (cyI, 6, .inl jjp)), (jiS, .inl (cyI, 6, .inl jjq))]) (w1 := (qa4l a0 jaX jaF jaD ja7 jby jbf jaM jaY jap jaK jal jam jax jao ja5 jaV jbJ jae jag jaf jaN jaC jbw jaw jaI jbG jbg jbB jan jbD jbu jar jaL jah jaB jaa jaz jaG jab jaT a0_s jaq jai jaO jaA jiO jiS jiY jaj jas jaJ jak jad jay jac ja5 cyI jbv jbJ cyI jcx)) (wn := (qbN a0 jaX jaF jaD ja7 jby jbf jaM jaY jap jaK jal jam jax jao ja5 jaV jbJ jae jag jaf jaN jaC jbw jaw jaI jbG jbg jbB jan jbD jbu jar jaL jah jaB jaa jaz jaG jab jaT a0_s jaq jai jaO jaA jiO jiS jiY jaj jas jaJ jak jad jay jac jaT cyI jb0 a0_s cyI f0_s ja5 cyI jbv jbu cyI f5 jbB cyI f6 jbG cyI jcu jbg cyI jbR jbJ cyI jcx jiO cyI jjl jiY cyI jjp jiS cyI jjq)) hP hD [0, 3, 8] [1, 2, 4, 5, 6, 7, 9, 10, 11] [9, 0, 1, 10, 2, 3, 4, 5, 11, 6, 7, 8] hCc rfl (by decide +kernel) (by decide +kernel) (by decide +kernel) rfl hk1 hFc hP1 hD1
        generalize H1 = H at hP hS ⊢
        refine lv_iand hx hb (qaa qcK 15 rfl) ?_
        exact qPt dC dI cyB cyI cyJ cyP a0 jaT a0_s jiY ja5 jbu jbB jbG jbg jbJ jiO jiS jaX jaF jaD ja7 jby jbf jaM jaY jap jaK jal jam jax jao jaV jae jag jaf jaw jaI jan jar jaL jah jaB jaa jaz jaG jab jaq jai jaO jaA jaj jas jaJ jak jad jay jac jaN jaC jbw jbD jb0 jbv jcu jbR jcx Q (qsa jaN jaC jbw jbD jb0 jbv jcu jbR jcx Q n) ih C0 _ _ _ f0_s f5 f6 jjl jjp jjq l1 l1 ((r7 ||| (1 <<< (x9 &&& 31))) &&& r10) hP hD hS (lv_sub hl [0, 1] rfl) hw
      · have hw := hw.2 c4
        refine lv_iconst (v := 0) hx hb (qaa qdi 15 rfl) (by decide) ?_
        refine lv_goto (tgt := 52) hx hb (qaa qcK 0 rfl) (by decide) ?_
        exact qPt dC dI cyB cyI cyJ cyP a0 jaT a0_s jiY ja5 jbu jbB jbG jbg jbJ jiO jiS jaX jaF jaD ja7 jby jbf jaM jaY jap jaK jal jam jax jao jaV jae jag jaf jaw jaI jan jar jaL jah jaB jaa jaz jaG jab jaq jai jaO jaA jaj jas jaJ jak jad jay jac jaN jaC jbw jbD jb0 jbv jcu jbR jcx Q (qsa jaN jaC jbw jbD jb0 jbv jcu jbR jcx Q n) ih C0 _ _ _ f0_s jbZ jca jjl jjp jjq l1 l1 0 hP hD hS (lv_sub hl [0, 1] rfl) hw
set_option maxHeartbeats 4000000 in
set_option maxRecDepth 100000 in
theorem qY4 (l : Launch) (dC : Nat → ClassId) (dI : Nat → Nat → Nat) (cyB cyI cyJ cyP : ClassId) (a0 jaT a0_s jiY ja5 jbu jbB jbG jbg jbJ jiO jiS sz : Nat) (jaX jaF jaD ja7 jby jbf jaM jaY jap jaK jal jam jax jao jaV jae jag jaf jaw jaI jan jar jaL jah jaB jaa jaz jaG jab jaq jai jaO jaA jaj jas jaJ jak jad jay jac : Value) (jaN jaC jbw jbD : Int32) (jb0 jbv jcu jbR jcx f0_s jbZ jca jjl jjp jjq : NI) {Q : NI → NI → NI → NI → NI → NI → Prop} (hw : qEt jaN jaC jbw jbD jb0 jbv jcu jbR jcx f0_s jbZ jca jjl jjp jjq Q) : Met l yX11_findSeats wsX11_findSeats ({ frames := 7, cells := 0, slots := 0, locals := 160 }) (va_Pc [.ref a0] (cPc (dC, dI) (kT cyB cyI cyJ cyP) (qbN a0 jaX jaF jaD ja7 jby jbf jaM jaY jap jaK jal jam jax jao ja5 jaV jbJ jae jag jaf jaN jaC jbw jaw jaI jbG jbg jbB jan jbD jbu jar jaL jah jaB jaa jaz jaG jab jaT a0_s jaq jai jaO jaA jiO jiS jiY jaj jas jaJ jak jad jay jac jaT cyI jb0 a0_s cyI f0_s ja5 cyI jbv jbu cyI jbZ jbB cyI jca jbG cyI jcu jbg cyI jbR jbJ cyI jcx jiO cyI jjl jiY cyI jjp jiS cyI jjq) sz)) (va_Qv (fun (u : NI × NI × NI × NI × NI × NI) => Q u.1 u.2.1 u.2.2.1 u.2.2.2.1 u.2.2.2.2.1 u.2.2.2.2.2) (cB (dC, dI) (kT cyB cyI cyJ cyP) (va_A (qbN a0 jaX jaF jaD ja7 jby jbf jaM jaY jap jaK jal jam jax jao ja5 jaV jbJ jae jag jaf jaN jaC jbw jaw jaI jbG jbg jbB jan jbD jbu jar jaL jah jaB jaa jaz jaG jab jaT a0_s jaq jai jaO jaA jiO jiS jiY jaj jas jaJ jak jad jay jac jaT cyI jb0 a0_s cyI f0_s ja5 cyI jbv jbu cyI jbZ jbB cyI jca jbG cyI jcu jbg cyI jbR jbJ cyI jcx jiO cyI jjl jiY cyI jjp jiS cyI jjq) sz) (fun u : NI × NI × NI × NI × NI × NI => ((qbN a0 jaX jaF jaD ja7 jby jbf jaM jaY jap jaK jal jam jax jao ja5 jaV jbJ jae jag jaf jaN jaC jbw jaw jaI jbG jbg jbB jan jbD jbu jar jaL jah jaB jaa jaz jaG jab jaT a0_s jaq jai jaO jaA jiO jiS jiY jaj jas jaJ jak jad jay jac jaT cyI jb0 a0_s cyI u.1 ja5 cyI jbv jbu cyI u.2.1 jbB cyI u.2.2.1 jbG cyI jcu jbg cyI jbR jbJ cyI jcx jiO cyI u.2.2.2.1 jiY cyI u.2.2.2.2.1 jiS cyI u.2.2.2.2.2) : va_W))) (va_A (qbN a0 jaX jaF jaD ja7 jby jbf jaM jaY jap jaK jal jam jax jao ja5 jaV jbJ jae jag jaf jaN jaC jbw jaw jaI jbG jbg jbB jan jbD jbu jar jaL jah jaB jaa jaz jaG jab jaT a0_s jaq jai jaO jaA jiO jiS jiY jaj jas jaJ jak jad jay jac jaT cyI jb0 a0_s cyI f0_s ja5 cyI jbv jbu cyI jbZ jbB cyI jca jbG cyI jcu jbg cyI jbR jbJ cyI jcx jiO cyI jjl jiY cyI jjp jiS cyI jjq) sz)) 0 0 (va_A (qbN a0 jaX jaF jaD ja7 jby jbf jaM jaY jap jaK jal jam jax jao ja5 jaV jbJ jae jag jaf jaN jaC jbw jaw jaI jbG jbg jbB jan jbD jbu jar jaL jah jaB jaa jaz jaG jab jaT a0_s jaq jai jaO jaA jiO jiS jiY jaj jas jaJ jak jad jay jac jaT cyI jb0 a0_s cyI f0_s ja5 cyI jbv jbu cyI jbZ jbB cyI jca jbG cyI jcu jbg cyI jbR jbJ cyI jcx jiO cyI jjl jiY cyI jjp jiS cyI jjq) sz) := by
  refine Met.ofW (cc := cX11_findSeats) (maxL := 6) (ret := none) (by decide) rfl ?_
  intro p e s m args below meth c s₁ B hml hv
  obtain ⟨rfl, hsz, hP, hK, hD0, hNw⟩ := hv
  have hx := B.exec
  have hb := B.bytes
  have hr := B.returns
  have hts := atoms_spec (ws := wsX11_findSeats) B.pre
  have hown : s.vm.findClass RX11 = some m.cls := findClass_of_methodNamed B.named
  have hlocks := B.notSynchronized
  subst hsz
  have hD := hD0.self (sz := s.heap.size)
  generalize hAe : va_A (qbN a0 jaX jaF jaD ja7 jby jbf jaM jaY jap jaK jal jam jax jao ja5 jaV jbJ jae jag jaf jaN jaC jbw jaw jaI jbG jbg jbB jan jbD jbu jar jaL jah jaB jaa jaz jaG jab jaT a0_s jaq jai jaO jaA jiO jiS jiY jaj jas jaJ jak jad jay jac jaT cyI jb0 a0_s cyI f0_s ja5 cyI jbv jbu cyI jbZ jbB cyI jca jbG cyI jcu jbg cyI jbR jbJ cyI jcx jiO cyI jjl jiY cyI jjp jiS cyI jjq) s.heap.size = A at hD ⊢
  have hA : ∀ q : Nat, s.heap.size ≤ q → A q := fun q h => by rw [← hAe]; exact Or.inr h
  have hS : va_S A s.heap s.heap [] := va_S.rf
  have hP : va_P (dC, dI) vwCl (qbN a0 jaX jaF jaD ja7 jby jbf jaM jaY jap jaK jal jam jax jao ja5 jaV jbJ jae jag jaf jaN jaC jbw jaw jaI jbG jbg jbB jan jbD jbu jar jaL jah jaB jaa jaz jaG jab jaT a0_s jaq jai jaO jaA jiO jiS jiY jaj jas jaJ jak jad jay jac jaT cyI jb0 a0_s cyI f0_s ja5 cyI jbv jbu cyI jbZ jbB cyI jca jbG cyI jcu jbg cyI jbR jbJ cyI jcx jiO cyI jjl jiY cyI jjp jiS cyI jjq) s.heap := hP
  have hl := lv_entry ([.ref a0]) (n := 6) (nbq rfl)
  rw [lg_entry_eq]
  generalize (lg_sl ([.ref a0]) ++ List.replicate (6 - (lg_sl ([.ref a0])).length) Slot.unset).toArray = ls at hl ⊢
  have hl : lv_has ls 6 [(0, .ref a0)] := hl
  have C0 : cfx p s m _ meth c cX11_findSeats none wsX11_findSeats RX11 6 A (dC, dI) (kT cyB cyI cyJ cyP) := ⟨hx, hb, hr, hts, hown, hlocks, hml, hA, hK, hNw⟩
  clear hAe
  obtain ⟨H, hH⟩ : ∃ H, H = s.heap := ⟨_, rfl⟩
  rw [← hH] at hP ⊢
  have hS : va_S A s.heap H [] := by rw [hH]; exact va_S.rf
  have hS := hS
  refine lv_aload_n hx hb (qaa qdi 0 rfl) rfl (lv_at hl 0 rfl) ?_
  obtain ⟨hCc, hPc, hDc, hFc⟩ := qac (ws' := (qa6k a0 jaX jaF jaD ja7 jby jbf jaM jaY jap jaK jal jam jax jao ja5 jaV jbJ jae jag jaf jaN jaC jbw jaw jaI jbG jbg jbB jan jbD jbu jar jaL jah jaB jaa jaz jaG jab jaT a0_s jaq jai jaO jaA jiO jiS jiY jaj jas jaJ jak jad jay jac jaT cyI jb0 a0_s cyI f0_s)) hP hD hS hA [0, 1, 2] (by decide +kernel) rfl
  refine va_callv (va_runV (As := []) (rest := []) ⟨hx, hb, hml, hown, hts⟩ (qq6 l dC dI cyB cyI cyJ cyP a0 jaT a0_s H.size (jaX) (jaF) (jaD) (ja7) (jby) (jbf) (jaM) (jaY) (jap) (jaK) (jal) (jam) (jax) (jao) (.ref ja5) (jaV) (.ref jbJ) (jae) (jag) (jaf) (.int jaN) (.int jaC) (.int jbw) (jaw) (jaI) (.ref jbG) (.ref jbg) (.ref jbB) (jan) (.int jbD) (.ref jbu) (jar) (jaL) (jah) (jaB) (jaa) (jaz) (jaG) (jab) (jaq) (jai) (jaO) (jaA) (.ref jiO) (.ref jiS) (.ref jiY) (jaj) (jas) (jaJ) (jak) (jad) (jay) (jac) jb0 f0_s hw) (cwV 0 hts gX11_findSeats_X11_take rfl rfl rfl (by decide +kernel) ⟨nbq rfl, nbq rfl⟩) ⟨qab, va_recv (q := (RX11, TX11, 55)) hK hPc (ci := 11) (q0 := 0) rfl rfl, qae hPc hK hDc hNw⟩ rfl rfl hl.1 rfl (lv_room (nbq rfl)) (qaa qdi 1 rfl) ⟨nbq rfl, nbq rfl⟩) hS (fun q _ h => hFc q h) hFc (fun u t H1 locs ht hvm hw hB hz1 hk1 hS => ?_)
  obtain ⟨f1, rfl⟩ : ∃ z, z = u := ⟨_, rfl⟩
  obtain ⟨hP1, hK1, hD1⟩ := hB
  rw [ht] at hP1
  obtain ⟨hP, hD⟩ := qad (wr := [(ja5, .inl (cyI, 16, .inl jbv)), (jbu, .inl (cyI, 8, .inl jbZ)), (jbB, .inl (cyI, 150, .inl jca)), (jbG, .inl (cyI, 150, .inl jcu)), (jbg, .inl (cyI, 150, .inl jbR)), (jbJ, .inl (cyI, 8, .inl jcx)), (jiO, .inl (cyI, 1792, .inl jjl)), (jiY, .inl (cyI, 6, .inl jjp)), (jiS, .inl (cyI, 6, .inl jjq))]) (w1 := (qa6k a0 jaX jaF jaD ja7 jby jbf jaM jaY jap jaK jal jam jax jao ja5 jaV jbJ jae jag jaf jaN jaC jbw jaw jaI jbG jbg jbB jan jbD jbu jar jaL jah jaB jaa jaz jaG jab jaT a0_s jaq jai jaO jaA jiO jiS jiY jaj jas jaJ jak jad jay jac jaT cyI jb0 a0_s cyI f1)) (wn := (qbN a0 jaX jaF jaD ja7 jby jbf jaM jaY jap jaK jal jam jax jao ja5 jaV jbJ jae jag jaf jaN jaC jbw jaw jaI jbG jbg jbB jan jbD jbu jar jaL jah jaB jaa jaz jaG jab jaT a0_s jaq jai jaO jaA jiO jiS jiY jaj jas jaJ jak jad jay jac jaT cyI jb0 a0_s cyI f1 ja5 cyI jbv jbu cyI jbZ jbB cyI jca jbG cyI jcu jbg cyI jbR jbJ cyI jcx jiO cyI jjl jiY cyI jjp jiS cyI jjq)) hP hD [0, 1, 2] [3, 4, 5, 6, 7, 8, 9, 10, 11] [9, 10, 11, 0, 1, 2, 3, 4, 5, 6, 7, 8] hCc rfl (by decide +kernel) (by decide +kernel) (by decide +kernel) rfl hk1 hFc hP1 hD1
  generalize H1 = H at hP hS ⊢
  refine lv_iconst (v := 0) hx hb (qaa qdi 2 rfl) (by decide) ?_
  refine lv_istore_n (lv' := [(1, .int 0), (0, .ref a0)]) hx hb (qaa qdi 3 rfl) rfl hl (by decide) rfl (fun ls hl => ?_)
  obtain ⟨n9, hw⟩ := hw
  exact qaeq dC dI cyB cyI cyJ cyP a0 jaT a0_s jiY ja5 jbu jbB jbG jbg jbJ jiO jiS jaX jaF jaD ja7 jby jbf jaM jaY jap jaK jal jam jax jao jaV jae jag jaf jaw jaI jan jar jaL jah jaB jaa jaz jaG jab jaq jai jaO jaA jaj jas jaJ jak jad jay jac jaN jaC jbw jbD jb0 jbv jcu jbR jcx Q C0 n9 _ _ _ f1 jbZ jca jjl jjp jjq 0 hP hD hS (lv_sub hl [1, 0] rfl) hw
