/-- worlds by their leaves -/
def qJf (x0 : Nat) (x1 : Value) (x2 : Nat) (x3 x4 x5 x6 x7 x8 x9 x10 x11 x12 x13 x14 x15 x16 x17 : Value) (x18 : Int32) (x19 : Value) (x20 x21 x22 : Nat) (x23 x24 x25 x26 x27 x28 : Value) (x29 : Int32) (x30 x31 x32 : Value) (x33 : Nat) (x34 : ClassId) (x35 : NI) (x36 : Nat) (x37 : ClassId) (x38 : NI) : va_W := [(x0, .inr (10, [x1, .ref x2, x3, x4, x5, x6, x7, x8, x9, x10, x11, x12, x13, x14, x15, x16, x17, .int x18, x19])), (x20, .inr (2, [.ref x21, .ref x22, x23, x24, x25, x26, x27, x28, .int x29, x30, x31, x32])), (x33, .inl (x34, 8, .inl x35)), (x36, .inl (x37, 8, .inl x38))]
def qaMi (x0 : Nat) (x1 : Value) (x2 : Nat) (x3 x4 x5 x6 x7 x8 x9 x10 x11 x12 x13 x14 x15 x16 x17 : Value) (x18 : Int32) (x19 : Value) (x20 x21 x22 : Nat) (x23 x24 x25 x26 x27 x28 : Value) (x29 : Int32) (x30 x31 x32 : Value) : va_W := [(x0, .inr (10, [x1, .ref x2, x3, x4, x5, x6, x7, x8, x9, x10, x11, x12, x13, x14, x15, x16, x17, .int x18, x19])), (x20, .inr (2, [.ref x21, .ref x22, x23, x24, x25, x26, x27, x28, .int x29, x30, x31, x32]))]
def qa1o (x0 : Nat) (x1 : ClassId) (x2 : NI) (x3 : Nat) (x4 : ClassId) (x5 : NI) : va_W := [(x0, .inl (x1, 8, .inl x2)), (x3, .inl (x4, 8, .inl x5))]
def qny (x0 x1 x2 : Nat) (x3 x4 x5 x6 x7 x8 : Value) (x9 : Int32) (x10 x11 x12 : Value) (x13 : Nat) (x14 : ClassId) (x15 : NI) (x16 : Nat) (x17 : ClassId) (x18 : NI) : va_W := [(x0, .inr (2, [.ref x1, .ref x2, x3, x4, x5, x6, x7, x8, .int x9, x10, x11, x12])), (x13, .inl (x14, 8, .inl x15)), (x16, .inl (x17, 8, .inl x18))]
def qZI (x0 : Nat) (x1 : Value) (x2 : Nat) (x3 x4 x5 x6 x7 x8 x9 x10 x11 x12 x13 x14 x15 x16 x17 : Value) (x18 : Int32) (x19 : Value) (x20 x21 x22 : Nat) (x23 x24 x25 x26 x27 x28 : Value) (x29 : Int32) (x30 x31 x32 : Value) (x33 : Nat) (x34 : ClassId) (x35 : NI) (x36 : Nat) (x37 : ClassId) (x38 : NI) (x39 : Nat) (x40 : ClassId) (x41 : Nat) (x42 : Nat → Int64) : va_W := [(x0, .inr (10, [x1, .ref x2, x3, x4, x5, x6, x7, x8, x9, x10, x11, x12, x13, x14, x15, x16, x17, .int x18, x19])), (x20, .inr (2, [.ref x21, .ref x22, x23, x24, x25, x26, x27, x28, .int x29, x30, x31, x32])), (x33, .inl (x34, 8, .inl x35)), (x36, .inl (x37, 8, .inl x38)), (x39, .inl (x40, x41, .inr (.inl x42)))]
def qnh (x0 : Nat) (x1 x2 x3 x4 x5 x6 x7 x8 x9 x10 x11 x12 x13 x14 x15 x16 x17 x18 : Value) (x19 : Int32) : va_W := [(x0, .inr (10, [x1, x2, x3, x4, x5, x6, x7, x8, x9, x10, x11, x12, x13, x14, x15, x16, x17, x18, .int x19]))]
def qYZ (x0 : Nat) (x1 x2 x3 x4 x5 x6 x7 x8 x9 x10 x11 x12 x13 x14 x15 x16 x17 x18 : Value) (x19 : Int32) (x20 : Nat) (x21 : ClassId) (x22 : Nat) (x23 : Nat → Int64) : va_W := [(x0, .inr (10, [x1, x2, x3, x4, x5, x6, x7, x8, x9, x10, x11, x12, x13, x14, x15, x16, x17, x18, .int x19])), (x20, .inl (x21, x22, .inr (.inl x23)))]
def q7P (x0 x1 x2 : Nat) (x3 x4 x5 x6 x7 x8 x9 x10 x11 : Value) (x12 : Nat) (x13 : ClassId) (x14 : NI) (x15 : Nat) (x16 : ClassId) (x17 : NI) : va_W := [(x0, .inr (3, [.ref x1, .ref x2, x3, x4, x5, x6, x7, x8, x9, x10, x11])), (x12, .inl (x13, 8, .inl x14)), (x15, .inl (x16, 6, .inl x17))]
def qWb (x0 x1 : Nat) (x2 : Value) (x3 : Nat) (x4 : ClassId) (x5 : NI) : va_W := [(x0, .inr (0, [.ref x1, x2])), (x3, .inl (x4, 8, .inl x5))]
def qZO (x0 x1 x2 : Nat) (x3 x4 x5 : Value) (x6 : Int32) (x7 : Nat) (x8 x9 x10 x11 : Value) (x12 : Nat) (x13 : ClassId) (x14 : NI) (x15 : Nat) (x16 : ClassId) (x17 : NI) (x18 x19 : Nat) (x20 : Value) (x21 : Nat) (x22 : ClassId) (x23 : NI) : va_W := [(x0, .inr (3, [.ref x1, .ref x2, x3, x4, x5, .int x6, .ref x7, x8, x9, x10, x11])), (x12, .inl (x13, 8, .inl x14)), (x15, .inl (x16, 6, .inl x17)), (x18, .inr (0, [.ref x19, x20])), (x21, .inl (x22, 8, .inl x23))]
def qaZV (x0 x1 x2 : Nat) (x3 x4 x5 : Value) (x6 : Int32) (x7 : Nat) (x8 x9 x10 x11 : Value) (x12 : Nat) (x13 : ClassId) (x14 : NI) (x15 : Nat) (x16 : ClassId) (x17 : NI) : va_W := [(x0, .inr (3, [.ref x1, .ref x2, x3, x4, x5, .int x6, .ref x7, x8, x9, x10, x11])), (x12, .inl (x13, 8, .inl x14)), (x15, .inl (x16, 6, .inl x17))]
def qsb (x0 x1 x2 : Nat) (x3 x4 x5 : Value) (x6 : Int32) (x7 : Nat) (x8 x9 : Int32) (x10 x11 : Value) (x12 : Nat) (x13 : ClassId) (x14 : NI) (x15 : Nat) (x16 : ClassId) (x17 : NI) (x18 x19 : Nat) (x20 : Value) (x21 : Nat) (x22 : ClassId) (x23 : NI) : va_W := [(x0, .inr (3, [.ref x1, .ref x2, x3, x4, x5, .int x6, .ref x7, .int x8, .int x9, x10, x11])), (x12, .inl (x13, 8, .inl x14)), (x15, .inl (x16, 6, .inl x17)), (x18, .inr (0, [.ref x19, x20])), (x21, .inl (x22, 8, .inl x23))]
def qqs (x0 x1 x2 x3 : Nat) (x4 : Value) (x5 x6 : Int32) (x7 : Nat) (x8 x9 : Int32) (x10 x11 : Value) (x12 x13 : Nat) (x14 : Value) (x15 : Nat) (x16 : Value) (x17 : Nat) (x18 x19 x20 x21 x22 x23 x24 x25 : Value) (x26 x27 : Int32) (x28 x29 : Value) (x30 : Nat) (x31 : ClassId) (x32 : NI) (x33 : Nat) (x34 : ClassId) (x35 : NI) (x36 : Nat) (x37 : ClassId) (x38 : NI) (x39 x40 : Nat) (x41 : Value) (x42 : Nat) (x43 : ClassId) (x44 : NI) (x45 : Nat) (x46 : ClassId) (x47 : NI) : va_W := [(x0, .inr (3, [.ref x1, .ref x2, .ref x3, x4, .int x5, .int x6, .ref x7, .int x8, .int x9, x10, x11])), (x12, .inr (1, [.ref x13, x14, .ref x15, x16])), (x17, .inr (2, [x18, x19, x20, x21, x22, x23, x24, x25, .int x26, .int x27, x28, x29])), (x30, .inl (x31, 64, .inl x32)), (x33, .inl (x34, 8, .inl x35)), (x36, .inl (x37, 6, .inl x38)), (x39, .inr (0, [.ref x40, x41])), (x42, .inl (x43, 8, .inl x44)), (x45, .inl (x46, 6, .inl x47))]
def qaOb (x0 x1 : Nat) (x2 : Value) (x3 : Nat) (x4 : Value) (x5 : Nat) (x6 : ClassId) (x7 : NI) : va_W := [(x0, .inr (1, [.ref x1, x2, .ref x3, x4])), (x5, .inl (x6, 64, .inl x7))]
def qa6I (x0 x1 x2 x3 : Nat) (x4 : Value) (x5 x6 : Int32) (x7 : Nat) (x8 x9 : Int32) (x10 x11 : Value) (x12 : Nat) (x13 x14 x15 x16 x17 x18 x19 x20 : Value) (x21 x22 : Int32) (x23 x24 : Value) (x25 : Nat) (x26 : ClassId) (x27 : NI) (x28 : Nat) (x29 : ClassId) (x30 : NI) (x31 x32 : Nat) (x33 : Value) (x34 : Nat) (x35 : ClassId) (x36 : NI) (x37 : Nat) (x38 : ClassId) (x39 : NI) : va_W := [(x0, .inr (3, [.ref x1, .ref x2, .ref x3, x4, .int x5, .int x6, .ref x7, .int x8, .int x9, x10, x11])), (x12, .inr (2, [x13, x14, x15, x16, x17, x18, x19, x20, .int x21, .int x22, x23, x24])), (x25, .inl (x26, 8, .inl x27)), (x28, .inl (x29, 6, .inl x30)), (x31, .inr (0, [.ref x32, x33])), (x34, .inl (x35, 8, .inl x36)), (x37, .inl (x38, 6, .inl x39))]
def qa9E (x0 x1 x2 x3 : Nat) (x4 : Value) (x5 x6 : Int32) (x7 : Nat) (x8 x9 : Int32) (x10 x11 : Value) (x12 : Nat) (x13 : ClassId) (x14 : NI) (x15 : Nat) (x16 : ClassId) (x17 : NI) (x18 x19 : Nat) (x20 : Value) (x21 : Nat) (x22 : ClassId) (x23 : NI) : va_W := [(x0, .inr (3, [.ref x1, .ref x2, .ref x3, x4, .int x5, .int x6, .ref x7, .int x8, .int x9, x10, x11])), (x12, .inl (x13, 8, .inl x14)), (x15, .inl (x16, 6, .inl x17)), (x18, .inr (0, [.ref x19, x20])), (x21, .inl (x22, 8, .inl x23))]
def qa5H (x0 x1 : Nat) (x2 : Value) (x3 : Nat) (x4 : Value) (x5 : Nat) (x6 x7 x8 x9 x10 x11 x12 x13 : Value) (x14 x15 : Int32) (x16 x17 : Value) (x18 : Nat) (x19 : ClassId) (x20 : NI) : va_W := [(x0, .inr (1, [.ref x1, x2, .ref x3, x4])), (x5, .inr (2, [x6, x7, x8, x9, x10, x11, x12, x13, .int x14, .int x15, x16, x17])), (x18, .inl (x19, 64, .inl x20))]
def qJE (x0 x1 x2 x3 : Nat) (x4 : Value) (x5 x6 : Int32) (x7 : Value) (x8 x9 : Int32) (x10 x11 : Value) (x12 x13 : Nat) (x14 : Value) (x15 : Nat) (x16 : Value) (x17 : Nat) (x18 x19 x20 x21 x22 x23 x24 x25 : Value) (x26 x27 : Int32) (x28 x29 : Value) (x30 : Nat) (x31 : ClassId) (x32 : NI) (x33 : Nat) (x34 : ClassId) (x35 : NI) (x36 : Nat) (x37 : ClassId) (x38 : NI) (x39 x40 : Nat) (x41 : Value) (x42 : Nat) (x43 : ClassId) (x44 : NI) (x45 : Nat) (x46 : ClassId) (x47 : NI) : va_W := [(x0, .inr (3, [.ref x1, .ref x2, .ref x3, x4, .int x5, .int x6, x7, .int x8, .int x9, x10, x11])), (x12, .inr (1, [.ref x13, x14, .ref x15, x16])), (x17, .inr (2, [x18, x19, x20, x21, x22, x23, x24, x25, .int x26, .int x27, x28, x29])), (x30, .inl (x31, 64, .inl x32)), (x33, .inl (x34, 8, .inl x35)), (x36, .inl (x37, 6, .inl x38)), (x39, .inr (0, [.ref x40, x41])), (x42, .inl (x43, 8, .inl x44)), (x45, .inl (x46, 6, .inl x47))]
def qM3 (x0 : Nat) (x1 x2 x3 x4 x5 : Value) (x6 : Nat) (x7 x8 : Value) (x9 : Nat) (x10 x11 x12 x13 x14 : Value) (x15 : Nat) (x16 x17 x18 : Value) (x19 : Int32) (x20 x21 x22 x23 : Nat) (x24 : Value) (x25 x26 : Int32) (x27 : Value) (x28 x29 : Int32) (x30 x31 : Value) (x32 x33 : Nat) (x34 : Value) (x35 : Nat) (x36 : Value) (x37 : Nat) (x38 x39 x40 x41 x42 x43 x44 x45 : Value) (x46 x47 : Int32) (x48 x49 : Value) (x50 : Nat) (x51 : ClassId) (x52 : NI) (x53 : Nat) (x54 : ClassId) (x55 : NI) (x56 : Nat) (x57 : ClassId) (x58 : NI) (x59 x60 : Nat) (x61 : Value) (x62 : Nat) (x63 : ClassId) (x64 : NI) (x65 : Nat) (x66 : ClassId) (x67 : NI) : va_W := [(x0, .inr (10, [x1, x2, x3, x4, x5, .ref x6, x7, x8, .ref x9, x10, x11, x12, x13, x14, .ref x15, x16, x17, x18, .int x19])), (x20, .inr (3, [.ref x21, .ref x22, .ref x23, x24, .int x25, .int x26, x27, .int x28, .int x29, x30, x31])), (x32, .inr (1, [.ref x33, x34, .ref x35, x36])), (x37, .inr (2, [x38, x39, x40, x41, x42, x43, x44, x45, .int x46, .int x47, x48, x49])), (x50, .inl (x51, 64, .inl x52)), (x53, .inl (x54, 8, .inl x55)), (x56, .inl (x57, 6, .inl x58)), (x59, .inr (0, [.ref x60, x61])), (x62, .inl (x63, 8, .inl x64)), (x65, .inl (x66, 6, .inl x67))]
def qaMD (x0 : Nat) (x1 x2 x3 x4 x5 : Value) (x6 : Nat) (x7 x8 : Value) (x9 : Nat) (x10 x11 x12 x13 x14 : Value) (x15 : Nat) (x16 x17 x18 : Value) (x19 : Int32) : va_W := [(x0, .inr (10, [x1, x2, x3, x4, x5, .ref x6, x7, x8, .ref x9, x10, x11, x12, x13, x14, .ref x15, x16, x17, x18, .int x19]))]
def qbeR (x0 : Nat) (x1 x2 x3 x4 x5 : Value) (x6 : Nat) (x7 x8 : Value) (x9 : Nat) (x10 x11 x12 x13 x14 : Value) (x15 : Nat) (x16 x17 x18 : Value) (x19 : Int32) (x20 x21 x22 x23 : Nat) (x24 : Value) (x25 x26 : Int32) (x27 : Nat) (x28 x29 : Int32) (x30 x31 : Value) (x32 x33 : Nat) (x34 : Value) (x35 : Nat) (x36 : Value) (x37 : Nat) (x38 x39 x40 x41 x42 x43 x44 x45 : Value) (x46 x47 : Int32) (x48 x49 : Value) (x50 : Nat) (x51 : ClassId) (x52 : NI) (x53 : Nat) (x54 : ClassId) (x55 : NI) (x56 : Nat) (x57 : ClassId) (x58 : NI) (x59 x60 : Nat) (x61 : Value) (x62 : Nat) (x63 : ClassId) (x64 : NI) (x65 : Nat) (x66 : ClassId) (x67 : NI) : va_W := [(x0, .inr (10, [x1, x2, x3, x4, x5, .ref x6, x7, x8, .ref x9, x10, x11, x12, x13, x14, .ref x15, x16, x17, x18, .int x19])), (x20, .inr (3, [.ref x21, .ref x22, .ref x23, x24, .int x25, .int x26, .ref x27, .int x28, .int x29, x30, x31])), (x32, .inr (1, [.ref x33, x34, .ref x35, x36])), (x37, .inr (2, [x38, x39, x40, x41, x42, x43, x44, x45, .int x46, .int x47, x48, x49])), (x50, .inl (x51, 64, .inl x52)), (x53, .inl (x54, 8, .inl x55)), (x56, .inl (x57, 6, .inl x58)), (x59, .inr (0, [.ref x60, x61])), (x62, .inl (x63, 8, .inl x64)), (x65, .inl (x66, 6, .inl x67))]
def qM7 (x0 : Nat) (x1 : Value) (x2 : Nat) (x3 x4 x5 : Value) (x6 : Nat) (x7 x8 : Value) (x9 : Nat) (x10 x11 x12 x13 x14 : Value) (x15 : Nat) (x16 x17 x18 : Value) (x19 : Int32) (x20 x21 x22 x23 : Nat) (x24 : Value) (x25 x26 : Int32) (x27 : Value) (x28 x29 : Int32) (x30 x31 : Value) (x32 x33 : Nat) (x34 : Value) (x35 : Nat) (x36 : Value) (x37 : Nat) (x38 x39 x40 x41 x42 x43 x44 x45 : Value) (x46 x47 : Int32) (x48 x49 : Value) (x50 : Nat) (x51 : ClassId) (x52 : NI) (x53 : Nat) (x54 : ClassId) (x55 : NI) (x56 : Nat) (x57 : ClassId) (x58 : NI) (x59 x60 : Nat) (x61 : Value) (x62 : Nat) (x63 : ClassId) (x64 : NI) (x65 : Nat) (x66 : ClassId) (x67 : NI) (x68 : Nat) (x69 : ClassId) (x70 : Nat) (x71 : Nat → Int64) : va_W := [(x0, .inr (10, [x1, .ref x2, x3, x4, x5, .ref x6, x7, x8, .ref x9, x10, x11, x12, x13, x14, .ref x15, x16, x17, x18, .int x19])), (x20, .inr (3, [.ref x21, .ref x22, .ref x23, x24, .int x25, .int x26, x27, .int x28, .int x29, x30, x31])), (x32, .inr (1, [.ref x33, x34, .ref x35, x36])), (x37, .inr (2, [x38, x39, x40, x41, x42, x43, x44, x45, .int x46, .int x47, x48, x49])), (x50, .inl (x51, 64, .inl x52)), (x53, .inl (x54, 8, .inl x55)), (x56, .inl (x57, 6, .inl x58)), (x59, .inr (0, [.ref x60, x61])), (x62, .inl (x63, 8, .inl x64)), (x65, .inl (x66, 6, .inl x67)), (x68, .inl (x69, x70, .inr (.inl x71)))]
def qaYL (x0 : Nat) (x1 : Value) (x2 : Nat) (x3 x4 x5 : Value) (x6 : Nat) (x7 x8 : Value) (x9 : Nat) (x10 x11 x12 x13 x14 : Value) (x15 : Nat) (x16 x17 x18 : Value) (x19 : Int32) (x20 x21 x22 x23 : Nat) (x24 : Value) (x25 x26 : Int32) (x27 : Value) (x28 x29 : Int32) (x30 x31 : Value) (x32 x33 : Nat) (x34 : Value) (x35 : Nat) (x36 : Value) (x37 : Nat) (x38 x39 x40 x41 x42 x43 x44 x45 : Value) (x46 x47 : Int32) (x48 x49 : Value) (x50 : Nat) (x51 : ClassId) (x52 : NI) (x53 : Nat) (x54 : ClassId) (x55 : NI) (x56 : Nat) (x57 : ClassId) (x58 : NI) (x59 x60 : Nat) (x61 : Value) (x62 : Nat) (x63 : ClassId) (x64 : NI) (x65 : Nat) (x66 : ClassId) (x67 : NI) : va_W := [(x0, .inr (10, [x1, .ref x2, x3, x4, x5, .ref x6, x7, x8, .ref x9, x10, x11, x12, x13, x14, .ref x15, x16, x17, x18, .int x19])), (x20, .inr (3, [.ref x21, .ref x22, .ref x23, x24, .int x25, .int x26, x27, .int x28, .int x29, x30, x31])), (x32, .inr (1, [.ref x33, x34, .ref x35, x36])), (x37, .inr (2, [x38, x39, x40, x41, x42, x43, x44, x45, .int x46, .int x47, x48, x49])), (x50, .inl (x51, 64, .inl x52)), (x53, .inl (x54, 8, .inl x55)), (x56, .inl (x57, 6, .inl x58)), (x59, .inr (0, [.ref x60, x61])), (x62, .inl (x63, 8, .inl x64)), (x65, .inl (x66, 6, .inl x67))]
def qzf (x0 : Nat) (x1 : Value) (x2 : Nat) (x3 x4 x5 x6 x7 x8 : Value) (x9 : Nat) (x10 x11 x12 x13 x14 x15 x16 x17 : Value) (x18 x19 : Int32) (x20 x21 x22 : Nat) (x23 x24 x25 x26 x27 x28 : Value) (x29 x30 : Int32) (x31 : Value) (x32 : Int32) (x33 x34 : Nat) (x35 : Value) (x36 : Nat) (x37 : Value) (x38 : Nat) (x39 : ClassId) (x40 : NI) (x41 : Nat) (x42 : ClassId) (x43 : NI) (x44 : Nat) (x45 : ClassId) (x46 : NI) : va_W := [(x0, .inr (10, [x1, .ref x2, x3, x4, x5, x6, x7, x8, .ref x9, x10, x11, x12, x13, x14, x15, x16, x17, .int x18, .int x19])), (x20, .inr (2, [.ref x21, .ref x22, x23, x24, x25, x26, x27, x28, .int x29, .int x30, x31, .int x32])), (x33, .inr (1, [.ref x34, x35, .ref x36, x37])), (x38, .inl (x39, 64, .inl x40)), (x41, .inl (x42, 8, .inl x43)), (x44, .inl (x45, 8, .inl x46))]
def qaXr (x0 : Nat) (x1 : Value) (x2 : Nat) (x3 x4 x5 x6 x7 x8 : Value) (x9 : Nat) (x10 x11 x12 x13 x14 x15 x16 x17 : Value) (x18 x19 : Int32) (x20 x21 x22 : Nat) (x23 x24 x25 x26 x27 x28 : Value) (x29 x30 : Int32) (x31 : Value) (x32 : Int32) : va_W := [(x0, .inr (10, [x1, .ref x2, x3, x4, x5, x6, x7, x8, .ref x9, x10, x11, x12, x13, x14, x15, x16, x17, .int x18, .int x19])), (x20, .inr (2, [.ref x21, .ref x22, x23, x24, x25, x26, x27, x28, .int x29, .int x30, x31, .int x32]))]
def qa9D (x0 x1 : Nat) (x2 : Value) (x3 : Nat) (x4 : Value) (x5 : Nat) (x6 : ClassId) (x7 : NI) (x8 : Nat) (x9 : ClassId) (x10 : NI) (x11 : Nat) (x12 : ClassId) (x13 : NI) : va_W := [(x0, .inr (1, [.ref x1, x2, .ref x3, x4])), (x5, .inl (x6, 64, .inl x7)), (x8, .inl (x9, 8, .inl x10)), (x11, .inl (x12, 8, .inl x13))]
def qalI (x0 : Nat) (x1 : Value) (x2 : Nat) (x3 x4 x5 x6 x7 x8 : Value) (x9 : Nat) (x10 x11 x12 x13 x14 x15 x16 x17 : Value) (x18 x19 : Int32) : va_W := [(x0, .inr (10, [x1, .ref x2, x3, x4, x5, x6, x7, x8, .ref x9, x10, x11, x12, x13, x14, x15, x16, x17, .int x18, .int x19]))]
def qa4i (x0 x1 x2 : Nat) (x3 x4 x5 x6 x7 x8 : Value) (x9 x10 : Int32) (x11 : Value) (x12 : Int32) (x13 x14 : Nat) (x15 : Value) (x16 : Nat) (x17 : Value) (x18 : Nat) (x19 : ClassId) (x20 : NI) (x21 : Nat) (x22 : ClassId) (x23 : NI) (x24 : Nat) (x25 : ClassId) (x26 : NI) : va_W := [(x0, .inr (2, [.ref x1, .ref x2, x3, x4, x5, x6, x7, x8, .int x9, .int x10, x11, .int x12])), (x13, .inr (1, [.ref x14, x15, .ref x16, x17])), (x18, .inl (x19, 64, .inl x20)), (x21, .inl (x22, 8, .inl x23)), (x24, .inl (x25, 8, .inl x26))]
def qa4P (x0 x1 : Nat) (x2 : Value) (x3 : Nat) (x4 : Value) (x5 x6 x7 : Nat) (x8 x9 x10 x11 x12 x13 : Value) (x14 x15 : Int32) (x16 : Value) (x17 : Int32) (x18 : Nat) (x19 : ClassId) (x20 : NI) : va_W := [(x0, .inr (1, [.ref x1, x2, .ref x3, x4])), (x5, .inr (2, [.ref x6, .ref x7, x8, x9, x10, x11, x12, x13, .int x14, .int x15, x16, .int x17])), (x18, .inl (x19, 64, .inl x20))]
def qa9y (x0 x1 x2 : Nat) (x3 x4 x5 x6 x7 x8 : Value) (x9 x10 : Int32) (x11 : Value) (x12 : Int32) : va_W := [(x0, .inr (2, [.ref x1, .ref x2, x3, x4, x5, x6, x7, x8, .int x9, .int x10, x11, .int x12]))]
def qMO (x0 : Nat) (x1 : Value) (x2 : Nat) (x3 x4 x5 x6 x7 x8 : Value) (x9 : Nat) (x10 x11 x12 x13 x14 x15 x16 x17 : Value) (x18 x19 : Int32) (x20 x21 x22 : Nat) (x23 x24 x25 x26 x27 x28 : Value) (x29 x30 : Int32) (x31 : Value) (x32 : Int32) (x33 x34 : Nat) (x35 : Value) (x36 : Nat) (x37 : Value) (x38 : Nat) (x39 : ClassId) (x40 : NI) (x41 : Nat) (x42 : ClassId) (x43 : NI) (x44 : Nat) (x45 : ClassId) (x46 : NI) (x47 : Nat) (x48 : ClassId) (x49 : Nat) (x50 : Nat → Int64) : va_W := [(x0, .inr (10, [x1, .ref x2, x3, x4, x5, x6, x7, x8, .ref x9, x10, x11, x12, x13, x14, x15, x16, x17, .int x18, .int x19])), (x20, .inr (2, [.ref x21, .ref x22, x23, x24, x25, x26, x27, x28, .int x29, .int x30, x31, .int x32])), (x33, .inr (1, [.ref x34, x35, .ref x36, x37])), (x38, .inl (x39, 64, .inl x40)), (x41, .inl (x42, 8, .inl x43)), (x44, .inl (x45, 8, .inl x46)), (x47, .inl (x48, x49, .inr (.inl x50)))]
def qzE (x0 : Nat) (x1 : Value) (x2 : Nat) (x3 x4 x5 x6 x7 x8 x9 x10 x11 x12 x13 x14 x15 x16 x17 : Value) (x18 x19 : Int32) (x20 : Nat) (x21 x22 : Value) (x23 x24 : Nat) (x25 x26 x27 x28 x29 x30 : Value) (x31 : Int32) (x32 : Value) (x33 : Nat) (x34 : ClassId) (x35 : NI) (x36 : Nat) (x37 : ClassId) (x38 : NI) : va_W := [(x0, .inr (10, [x1, .ref x2, x3, x4, x5, x6, x7, x8, x9, x10, x11, x12, x13, x14, x15, x16, x17, .int x18, .int x19])), (x20, .inr (2, [x21, x22, .ref x23, .ref x24, x25, x26, x27, x28, x29, x30, .int x31, x32])), (x33, .inl (x34, 4, .inl x35)), (x36, .inl (x37, 4, .inl x38))]
def qaXe (x0 : Nat) (x1 : Value) (x2 : Nat) (x3 x4 x5 x6 x7 x8 x9 x10 x11 x12 x13 x14 x15 x16 x17 : Value) (x18 x19 : Int32) : va_W := [(x0, .inr (10, [x1, .ref x2, x3, x4, x5, x6, x7, x8, x9, x10, x11, x12, x13, x14, x15, x16, x17, .int x18, .int x19]))]
def qa35 (x0 : Nat) (x1 x2 : Value) (x3 x4 : Nat) (x5 x6 x7 x8 x9 x10 : Value) (x11 : Int32) (x12 : Value) (x13 : Nat) (x14 : ClassId) (x15 : NI) (x16 : Nat) (x17 : ClassId) (x18 : NI) : va_W := [(x0, .inr (2, [x1, x2, .ref x3, .ref x4, x5, x6, x7, x8, x9, x10, .int x11, x12])), (x13, .inl (x14, 4, .inl x15)), (x16, .inl (x17, 4, .inl x18))]
def qL5 (x0 : Nat) (x1 : Value) (x2 : Nat) (x3 x4 x5 x6 x7 x8 x9 x10 x11 x12 x13 x14 x15 x16 x17 : Value) (x18 x19 : Int32) (x20 : Nat) (x21 x22 : Value) (x23 x24 : Nat) (x25 x26 x27 x28 x29 x30 : Value) (x31 : Int32) (x32 : Value) (x33 : Nat) (x34 : ClassId) (x35 : NI) (x36 : Nat) (x37 : ClassId) (x38 : NI) (x39 : Nat) (x40 : ClassId) (x41 : Nat) (x42 : Nat → Int64) : va_W := [(x0, .inr (10, [x1, .ref x2, x3, x4, x5, x6, x7, x8, x9, x10, x11, x12, x13, x14, x15, x16, x17, .int x18, .int x19])), (x20, .inr (2, [x21, x22, .ref x23, .ref x24, x25, x26, x27, x28, x29, x30, .int x31, x32])), (x33, .inl (x34, 4, .inl x35)), (x36, .inl (x37, 4, .inl x38)), (x39, .inl (x40, x41, .inr (.inl x42)))]
def qvZ (x0 : Nat) (x1 : Value) (x2 : Nat) (x3 x4 x5 x6 x7 x8 : Value) (x9 : Nat) (x10 x11 x12 x13 x14 x15 x16 x17 : Value) (x18 x19 : Int32) (x20 : Nat) (x21 x22 x23 x24 x25 : Value) (x26 : Nat) (x27 x28 x29 : Value) (x30 : Int32) (x31 x32 : Value) (x33 x34 : Nat) (x35 : Value) (x36 x37 x38 : Nat) (x39 : ClassId) (x40 : NI) (x41 x42 x43 x44 x45 : Nat) (x46 : Int32) (x47 : Nat) (x48 : ClassId) (x49 : NI) (x50 : Nat) (x51 : ClassId) (x52 : NI) (x53 : Nat) (x54 : ClassId) (x55 : NI) (x56 : Nat) (x57 : ClassId) (x58 : NI) (x59 : Nat) (x60 : ClassId) (x61 : NI) : va_W := [(x0, .inr (10, [x1, .ref x2, x3, x4, x5, x6, x7, x8, .ref x9, x10, x11, x12, x13, x14, x15, x16, x17, .int x18, .int x19])), (x20, .inr (2, [x21, x22, x23, x24, x25, .ref x26, x27, x28, x29, .int x30, x31, x32])), (x33, .inr (1, [.ref x34, x35, .ref x36, .ref x37])), (x38, .inl (x39, 64, .inl x40)), (x41, .inr (4, [.ref x42, .ref x43, .ref x44, .ref x45, .int x46])), (x47, .inl (x48, 8, .inl x49)), (x50, .inl (x51, 150, .inl x52)), (x53, .inl (x54, 150, .inl x55)), (x56, .inl (x57, 150, .inl x58)), (x59, .inl (x60, 6, .inl x61))]
def qaZS (x0 : Nat) (x1 : Value) (x2 : Nat) (x3 x4 x5 x6 x7 x8 : Value) (x9 : Nat) (x10 x11 x12 x13 x14 x15 x16 x17 : Value) (x18 x19 : Int32) (x20 : Nat) (x21 x22 x23 x24 x25 : Value) (x26 : Nat) (x27 x28 x29 : Value) (x30 : Int32) (x31 x32 : Value) : va_W := [(x0, .inr (10, [x1, .ref x2, x3, x4, x5, x6, x7, x8, .ref x9, x10, x11, x12, x13, x14, x15, x16, x17, .int x18, .int x19])), (x20, .inr (2, [x21, x22, x23, x24, x25, .ref x26, x27, x28, x29, .int x30, x31, x32]))]
def qa8U (x0 x1 : Nat) (x2 : Value) (x3 x4 x5 : Nat) (x6 : ClassId) (x7 : NI) (x8 x9 x10 x11 x12 : Nat) (x13 : Int32) (x14 : Nat) (x15 : ClassId) (x16 : NI) (x17 : Nat) (x18 : ClassId) (x19 : NI) (x20 : Nat) (x21 : ClassId) (x22 : NI) (x23 : Nat) (x24 : ClassId) (x25 : NI) (x26 : Nat) (x27 : ClassId) (x28 : NI) : va_W := [(x0, .inr (1, [.ref x1, x2, .ref x3, .ref x4])), (x5, .inl (x6, 64, .inl x7)), (x8, .inr (4, [.ref x9, .ref x10, .ref x11, .ref x12, .int x13])), (x14, .inl (x15, 8, .inl x16)), (x17, .inl (x18, 150, .inl x19)), (x20, .inl (x21, 150, .inl x22)), (x23, .inl (x24, 150, .inl x25)), (x26, .inl (x27, 6, .inl x28))]
def qa8A (x0 : Nat) (x1 x2 x3 x4 x5 : Value) (x6 : Nat) (x7 x8 x9 : Value) (x10 : Int32) (x11 x12 : Value) (x13 x14 : Nat) (x15 : Value) (x16 x17 x18 : Nat) (x19 : ClassId) (x20 : NI) (x21 x22 x23 x24 x25 : Nat) (x26 : Int32) (x27 : Nat) (x28 : ClassId) (x29 : NI) (x30 : Nat) (x31 : ClassId) (x32 : NI) (x33 : Nat) (x34 : ClassId) (x35 : NI) (x36 : Nat) (x37 : ClassId) (x38 : NI) (x39 : Nat) (x40 : ClassId) (x41 : NI) : va_W := [(x0, .inr (2, [x1, x2, x3, x4, x5, .ref x6, x7, x8, x9, .int x10, x11, x12])), (x13, .inr (1, [.ref x14, x15, .ref x16, .ref x17])), (x18, .inl (x19, 64, .inl x20)), (x21, .inr (4, [.ref x22, .ref x23, .ref x24, .ref x25, .int x26])), (x27, .inl (x28, 8, .inl x29)), (x30, .inl (x31, 150, .inl x32)), (x33, .inl (x34, 150, .inl x35)), (x36, .inl (x37, 150, .inl x38)), (x39, .inl (x40, 6, .inl x41))]
def qDk (x0 x1 : Nat) (x2 : Value) (x3 x4 x5 : Nat) (x6 : ClassId) (x7 : NI) : va_W := [(x0, .inr (1, [.ref x1, x2, .ref x3, .ref x4])), (x5, .inl (x6, 64, .inl x7))]
def qami (x0 : Nat) (x1 : Value) (x2 : Nat) (x3 x4 x5 x6 x7 x8 : Value) (x9 : Nat) (x10 x11 x12 x13 x14 x15 x16 x17 : Value) (x18 x19 : Int32) (x20 : Nat) (x21 x22 x23 x24 x25 : Value) (x26 : Nat) (x27 x28 x29 : Value) (x30 : Int32) (x31 x32 : Value) (x33 x34 x35 x36 x37 : Nat) (x38 : Int32) (x39 : Nat) (x40 : ClassId) (x41 : NI) (x42 : Nat) (x43 : ClassId) (x44 : NI) (x45 : Nat) (x46 : ClassId) (x47 : NI) (x48 : Nat) (x49 : ClassId) (x50 : NI) (x51 : Nat) (x52 : ClassId) (x53 : NI) : va_W := [(x0, .inr (10, [x1, .ref x2, x3, x4, x5, x6, x7, x8, .ref x9, x10, x11, x12, x13, x14, x15, x16, x17, .int x18, .int x19])), (x20, .inr (2, [x21, x22, x23, x24, x25, .ref x26, x27, x28, x29, .int x30, x31, x32])), (x33, .inr (4, [.ref x34, .ref x35, .ref x36, .ref x37, .int x38])), (x39, .inl (x40, 8, .inl x41)), (x42, .inl (x43, 150, .inl x44)), (x45, .inl (x46, 150, .inl x47)), (x48, .inl (x49, 150, .inl x50)), (x51, .inl (x52, 6, .inl x53))]
def qbag (x0 x1 : Nat) (x2 : Value) (x3 x4 x5 : Nat) (x6 : ClassId) (x7 : NI) (x8 : Nat) (x9 x10 x11 x12 x13 : Value) (x14 : Nat) (x15 x16 x17 : Value) (x18 : Int32) (x19 x20 : Value) (x21 x22 x23 x24 x25 : Nat) (x26 : Int32) (x27 : Nat) (x28 : ClassId) (x29 : NI) (x30 : Nat) (x31 : ClassId) (x32 : NI) (x33 : Nat) (x34 : ClassId) (x35 : NI) (x36 : Nat) (x37 : ClassId) (x38 : NI) : va_W := [(x0, .inr (1, [.ref x1, x2, .ref x3, .ref x4])), (x5, .inl (x6, 64, .inl x7)), (x8, .inr (2, [x9, x10, x11, x12, x13, .ref x14, x15, x16, x17, .int x18, x19, x20])), (x21, .inr (4, [.ref x22, .ref x23, .ref x24, .ref x25, .int x26])), (x27, .inl (x28, 8, .inl x29)), (x30, .inl (x31, 150, .inl x32)), (x33, .inl (x34, 150, .inl x35)), (x36, .inl (x37, 150, .inl x38))]
def qaOC (x0 x1 : Nat) (x2 : Value) (x3 x4 x5 : Nat) (x6 x7 x8 x9 x10 : Value) (x11 : Nat) (x12 x13 x14 : Value) (x15 : Int32) (x16 x17 : Value) (x18 : Nat) (x19 : ClassId) (x20 : NI) : va_W := [(x0, .inr (1, [.ref x1, x2, .ref x3, .ref x4])), (x5, .inr (2, [x6, x7, x8, x9, x10, .ref x11, x12, x13, x14, .int x15, x16, x17])), (x18, .inl (x19, 64, .inl x20))]
def qa67 (x0 : Nat) (x1 : Value) (x2 : Nat) (x3 x4 x5 x6 x7 x8 : Value) (x9 : Nat) (x10 x11 x12 x13 x14 x15 x16 x17 : Value) (x18 x19 : Int32) (x20 x21 x22 x23 x24 : Nat) (x25 : Int32) (x26 : Nat) (x27 : ClassId) (x28 : NI) (x29 : Nat) (x30 : ClassId) (x31 : NI) (x32 : Nat) (x33 : ClassId) (x34 : NI) (x35 : Nat) (x36 : ClassId) (x37 : NI) (x38 : Nat) (x39 : ClassId) (x40 : NI) : va_W := [(x0, .inr (10, [x1, .ref x2, x3, x4, x5, x6, x7, x8, .ref x9, x10, x11, x12, x13, x14, x15, x16, x17, .int x18, .int x19])), (x20, .inr (4, [.ref x21, .ref x22, .ref x23, .ref x24, .int x25])), (x26, .inl (x27, 8, .inl x28)), (x29, .inl (x30, 150, .inl x31)), (x32, .inl (x33, 150, .inl x34)), (x35, .inl (x36, 150, .inl x37)), (x38, .inl (x39, 6, .inl x40))]
def qLY (x0 : Nat) (x1 : Value) (x2 : Nat) (x3 : Value) (x4 : Nat) (x5 x6 x7 x8 : Value) (x9 : Nat) (x10 x11 x12 x13 x14 x15 x16 x17 : Value) (x18 x19 : Int32) (x20 : Nat) (x21 x22 x23 x24 x25 : Value) (x26 : Nat) (x27 x28 x29 : Value) (x30 : Int32) (x31 x32 : Value) (x33 x34 : Nat) (x35 : Value) (x36 x37 x38 : Nat) (x39 : ClassId) (x40 : NI) (x41 x42 x43 x44 x45 : Nat) (x46 : Int32) (x47 : Nat) (x48 : ClassId) (x49 : NI) (x50 : Nat) (x51 : ClassId) (x52 : NI) (x53 : Nat) (x54 : ClassId) (x55 : NI) (x56 : Nat) (x57 : ClassId) (x58 : NI) (x59 : Nat) (x60 : ClassId) (x61 : NI) (x62 : Nat) (x63 : ClassId) (x64 : Nat) (x65 : Nat → Int64) : va_W := [(x0, .inr (10, [x1, .ref x2, x3, .ref x4, x5, x6, x7, x8, .ref x9, x10, x11, x12, x13, x14, x15, x16, x17, .int x18, .int x19])), (x20, .inr (2, [x21, x22, x23, x24, x25, .ref x26, x27, x28, x29, .int x30, x31, x32])), (x33, .inr (1, [.ref x34, x35, .ref x36, .ref x37])), (x38, .inl (x39, 64, .inl x40)), (x41, .inr (4, [.ref x42, .ref x43, .ref x44, .ref x45, .int x46])), (x47, .inl (x48, 8, .inl x49)), (x50, .inl (x51, 150, .inl x52)), (x53, .inl (x54, 150, .inl x55)), (x56, .inl (x57, 150, .inl x58)), (x59, .inl (x60, 6, .inl x61)), (x62, .inl (x63, x64, .inr (.inl x65)))]
def qaXq (x0 : Nat) (x1 : Value) (x2 : Nat) (x3 : Value) (x4 : Nat) (x5 x6 x7 x8 : Value) (x9 : Nat) (x10 x11 x12 x13 x14 x15 x16 x17 : Value) (x18 x19 : Int32) (x20 : Nat) (x21 x22 x23 x24 x25 : Value) (x26 : Nat) (x27 x28 x29 : Value) (x30 : Int32) (x31 x32 : Value) (x33 x34 : Nat) (x35 : Value) (x36 x37 x38 : Nat) (x39 : ClassId) (x40 : NI) (x41 x42 x43 x44 x45 : Nat) (x46 : Int32) (x47 : Nat) (x48 : ClassId) (x49 : NI) (x50 : Nat) (x51 : ClassId) (x52 : NI) (x53 : Nat) (x54 : ClassId) (x55 : NI) (x56 : Nat) (x57 : ClassId) (x58 : NI) (x59 : Nat) (x60 : ClassId) (x61 : NI) : va_W := [(x0, .inr (10, [x1, .ref x2, x3, .ref x4, x5, x6, x7, x8, .ref x9, x10, x11, x12, x13, x14, x15, x16, x17, .int x18, .int x19])), (x20, .inr (2, [x21, x22, x23, x24, x25, .ref x26, x27, x28, x29, .int x30, x31, x32])), (x33, .inr (1, [.ref x34, x35, .ref x36, .ref x37])), (x38, .inl (x39, 64, .inl x40)), (x41, .inr (4, [.ref x42, .ref x43, .ref x44, .ref x45, .int x46])), (x47, .inl (x48, 8, .inl x49)), (x50, .inl (x51, 150, .inl x52)), (x53, .inl (x54, 150, .inl x55)), (x56, .inl (x57, 150, .inl x58)), (x59, .inl (x60, 6, .inl x61))]
def qAV (x0 : Nat) (x1 : Value) (x2 : Nat) (x3 x4 x5 x6 x7 x8 : Value) (x9 : Nat) (x10 x11 x12 x13 x14 x15 x16 x17 : Value) (x18 : Int32) (x19 : Value) (x20 x21 x22 : Nat) (x23 x24 x25 x26 x27 x28 : Value) (x29 x30 : Int32) (x31 x32 : Value) (x33 x34 : Nat) (x35 : Value) (x36 x37 x38 : Nat) (x39 : ClassId) (x40 : NI) (x41 x42 x43 x44 x45 : Nat) (x46 : Int32) (x47 : Nat) (x48 : ClassId) (x49 : NI) (x50 : Nat) (x51 : ClassId) (x52 : NI) (x53 : Nat) (x54 : ClassId) (x55 : NI) (x56 : Nat) (x57 : ClassId) (x58 : NI) (x59 : Nat) (x60 : ClassId) (x61 : NI) (x62 : Nat) (x63 : ClassId) (x64 : NI) : va_W := [(x0, .inr (10, [x1, .ref x2, x3, x4, x5, x6, x7, x8, .ref x9, x10, x11, x12, x13, x14, x15, x16, x17, .int x18, x19])), (x20, .inr (2, [.ref x21, .ref x22, x23, x24, x25, x26, x27, x28, .int x29, .int x30, x31, x32])), (x33, .inr (1, [.ref x34, x35, .ref x36, .ref x37])), (x38, .inl (x39, 64, .inl x40)), (x41, .inr (4, [.ref x42, .ref x43, .ref x44, .ref x45, .int x46])), (x47, .inl (x48, 8, .inl x49)), (x50, .inl (x51, 150, .inl x52)), (x53, .inl (x54, 150, .inl x55)), (x56, .inl (x57, 150, .inl x58)), (x59, .inl (x60, 8, .inl x61)), (x62, .inl (x63, 8, .inl x64))]
def qama (x0 : Nat) (x1 : Value) (x2 : Nat) (x3 x4 x5 x6 x7 x8 : Value) (x9 : Nat) (x10 x11 x12 x13 x14 x15 x16 x17 : Value) (x18 : Int32) (x19 : Value) (x20 x21 x22 : Nat) (x23 x24 x25 x26 x27 x28 : Value) (x29 x30 : Int32) (x31 x32 : Value) : va_W := [(x0, .inr (10, [x1, .ref x2, x3, x4, x5, x6, x7, x8, .ref x9, x10, x11, x12, x13, x14, x15, x16, x17, .int x18, x19])), (x20, .inr (2, [.ref x21, .ref x22, x23, x24, x25, x26, x27, x28, .int x29, .int x30, x31, x32]))]
def qaNA (x0 x1 : Nat) (x2 : Value) (x3 x4 x5 : Nat) (x6 : ClassId) (x7 : NI) (x8 x9 x10 x11 x12 : Nat) (x13 : Int32) (x14 : Nat) (x15 : ClassId) (x16 : NI) (x17 : Nat) (x18 : ClassId) (x19 : NI) (x20 : Nat) (x21 : ClassId) (x22 : NI) (x23 : Nat) (x24 : ClassId) (x25 : NI) (x26 : Nat) (x27 : ClassId) (x28 : NI) (x29 : Nat) (x30 : ClassId) (x31 : NI) : va_W := [(x0, .inr (1, [.ref x1, x2, .ref x3, .ref x4])), (x5, .inl (x6, 64, .inl x7)), (x8, .inr (4, [.ref x9, .ref x10, .ref x11, .ref x12, .int x13])), (x14, .inl (x15, 8, .inl x16)), (x17, .inl (x18, 150, .inl x19)), (x20, .inl (x21, 150, .inl x22)), (x23, .inl (x24, 150, .inl x25)), (x26, .inl (x27, 8, .inl x28)), (x29, .inl (x30, 8, .inl x31))]
def qa7A (x0 : Nat) (x1 : Value) (x2 : Nat) (x3 x4 x5 x6 x7 x8 : Value) (x9 : Nat) (x10 x11 x12 x13 x14 x15 x16 x17 : Value) (x18 : Int32) (x19 : Value) (x20 x21 x22 : Nat) (x23 x24 x25 x26 x27 x28 : Value) (x29 x30 : Int32) (x31 x32 : Value) (x33 x34 x35 x36 x37 : Nat) (x38 : Int32) (x39 : Nat) (x40 : ClassId) (x41 : NI) (x42 : Nat) (x43 : ClassId) (x44 : NI) (x45 : Nat) (x46 : ClassId) (x47 : NI) (x48 : Nat) (x49 : ClassId) (x50 : NI) (x51 : Nat) (x52 : ClassId) (x53 : NI) (x54 : Nat) (x55 : ClassId) (x56 : NI) : va_W := [(x0, .inr (10, [x1, .ref x2, x3, x4, x5, x6, x7, x8, .ref x9, x10, x11, x12, x13, x14, x15, x16, x17, .int x18, x19])), (x20, .inr (2, [.ref x21, .ref x22, x23, x24, x25, x26, x27, x28, .int x29, .int x30, x31, x32])), (x33, .inr (4, [.ref x34, .ref x35, .ref x36, .ref x37, .int x38])), (x39, .inl (x40, 8, .inl x41)), (x42, .inl (x43, 150, .inl x44)), (x45, .inl (x46, 150, .inl x47)), (x48, .inl (x49, 150, .inl x50)), (x51, .inl (x52, 8, .inl x53)), (x54, .inl (x55, 8, .inl x56))]
def qa7Y (x0 x1 : Nat) (x2 : Value) (x3 x4 x5 : Nat) (x6 : ClassId) (x7 : NI) (x8 x9 x10 : Nat) (x11 x12 x13 x14 x15 x16 : Value) (x17 x18 : Int32) (x19 x20 : Value) (x21 x22 x23 x24 x25 : Nat) (x26 : Int32) (x27 : Nat) (x28 : ClassId) (x29 : NI) (x30 : Nat) (x31 : ClassId) (x32 : NI) (x33 : Nat) (x34 : ClassId) (x35 : NI) (x36 : Nat) (x37 : ClassId) (x38 : NI) : va_W := [(x0, .inr (1, [.ref x1, x2, .ref x3, .ref x4])), (x5, .inl (x6, 64, .inl x7)), (x8, .inr (2, [.ref x9, .ref x10, x11, x12, x13, x14, x15, x16, .int x17, .int x18, x19, x20])), (x21, .inr (4, [.ref x22, .ref x23, .ref x24, .ref x25, .int x26])), (x27, .inl (x28, 8, .inl x29)), (x30, .inl (x31, 150, .inl x32)), (x33, .inl (x34, 150, .inl x35)), (x36, .inl (x37, 150, .inl x38))]
def qa7X (x0 x1 x2 : Nat) (x3 x4 x5 x6 x7 x8 : Value) (x9 x10 : Int32) (x11 x12 : Value) (x13 : Nat) (x14 : ClassId) (x15 : NI) (x16 : Nat) (x17 : ClassId) (x18 : NI) : va_W := [(x0, .inr (2, [.ref x1, .ref x2, x3, x4, x5, x6, x7, x8, .int x9, .int x10, x11, x12])), (x13, .inl (x14, 8, .inl x15)), (x16, .inl (x17, 8, .inl x18))]
def qMV (x0 : Nat) (x1 : Value) (x2 : Nat) (x3 : Value) (x4 : Nat) (x5 x6 x7 x8 : Value) (x9 : Nat) (x10 x11 x12 x13 x14 x15 x16 x17 : Value) (x18 : Int32) (x19 : Value) (x20 x21 x22 : Nat) (x23 x24 x25 x26 x27 x28 : Value) (x29 x30 : Int32) (x31 x32 : Value) (x33 x34 : Nat) (x35 : Value) (x36 x37 x38 : Nat) (x39 : ClassId) (x40 : NI) (x41 x42 x43 x44 x45 : Nat) (x46 : Int32) (x47 : Nat) (x48 : ClassId) (x49 : NI) (x50 : Nat) (x51 : ClassId) (x52 : NI) (x53 : Nat) (x54 : ClassId) (x55 : NI) (x56 : Nat) (x57 : ClassId) (x58 : NI) (x59 : Nat) (x60 : ClassId) (x61 : NI) (x62 : Nat) (x63 : ClassId) (x64 : NI) (x65 : Nat) (x66 : ClassId) (x67 : Nat) (x68 : Nat → Int64) : va_W := [(x0, .inr (10, [x1, .ref x2, x3, .ref x4, x5, x6, x7, x8, .ref x9, x10, x11, x12, x13, x14, x15, x16, x17, .int x18, x19])), (x20, .inr (2, [.ref x21, .ref x22, x23, x24, x25, x26, x27, x28, .int x29, .int x30, x31, x32])), (x33, .inr (1, [.ref x34, x35, .ref x36, .ref x37])), (x38, .inl (x39, 64, .inl x40)), (x41, .inr (4, [.ref x42, .ref x43, .ref x44, .ref x45, .int x46])), (x47, .inl (x48, 8, .inl x49)), (x50, .inl (x51, 150, .inl x52)), (x53, .inl (x54, 150, .inl x55)), (x56, .inl (x57, 150, .inl x58)), (x59, .inl (x60, 8, .inl x61)), (x62, .inl (x63, 8, .inl x64)), (x65, .inl (x66, x67, .inr (.inl x68)))]
def qaYf (x0 : Nat) (x1 : Value) (x2 : Nat) (x3 : Value) (x4 : Nat) (x5 x6 x7 x8 : Value) (x9 : Nat) (x10 x11 x12 x13 x14 x15 x16 x17 : Value) (x18 : Int32) (x19 : Value) (x20 x21 x22 : Nat) (x23 x24 x25 x26 x27 x28 : Value) (x29 x30 : Int32) (x31 x32 : Value) (x33 x34 : Nat) (x35 : Value) (x36 x37 x38 : Nat) (x39 : ClassId) (x40 : NI) (x41 x42 x43 x44 x45 : Nat) (x46 : Int32) (x47 : Nat) (x48 : ClassId) (x49 : NI) (x50 : Nat) (x51 : ClassId) (x52 : NI) (x53 : Nat) (x54 : ClassId) (x55 : NI) (x56 : Nat) (x57 : ClassId) (x58 : NI) (x59 : Nat) (x60 : ClassId) (x61 : NI) (x62 : Nat) (x63 : ClassId) (x64 : NI) : va_W := [(x0, .inr (10, [x1, .ref x2, x3, .ref x4, x5, x6, x7, x8, .ref x9, x10, x11, x12, x13, x14, x15, x16, x17, .int x18, x19])), (x20, .inr (2, [.ref x21, .ref x22, x23, x24, x25, x26, x27, x28, .int x29, .int x30, x31, x32])), (x33, .inr (1, [.ref x34, x35, .ref x36, .ref x37])), (x38, .inl (x39, 64, .inl x40)), (x41, .inr (4, [.ref x42, .ref x43, .ref x44, .ref x45, .int x46])), (x47, .inl (x48, 8, .inl x49)), (x50, .inl (x51, 150, .inl x52)), (x53, .inl (x54, 150, .inl x55)), (x56, .inl (x57, 150, .inl x58)), (x59, .inl (x60, 8, .inl x61)), (x62, .inl (x63, 8, .inl x64))]
def qJR (x0 x1 : Nat) (x2 x3 : Int32) (x4 x5 x6 x7 : Value) (x8 : Nat) (x9 : ClassId) (x10 : NI) : va_W := [(x0, .inr (8, [.ref x1, .int x2, .int x3, x4, x5, x6, x7])), (x8, .inl (x9, 600, .inl x10))]
def qJS (x0 x1 : Nat) (x2 x3 : Int32) (x4 x5 : Value) (x6 x7 : Int32) (x8 : Nat) (x9 : ClassId) (x10 : NI) : va_W := [(x0, .inr (8, [.ref x1, .int x2, .int x3, x4, x5, .int x6, .int x7])), (x8, .inl (x9, 600, .inl x10))]
def qal0 (x0 : Nat) (x1 x2 x3 x4 : Value) : va_W := [(x0, .inr (1, [x1, x2, x3, x4]))]
def qaWC (x0 : Nat) (x1 x2 x3 : Value) (x4 : Nat) : va_W := [(x0, .inr (1, [x1, x2, x3, .ref x4]))]
def qRa (x0 : Nat) (x1 x2 x3 : Value) (x4 : Nat) (x5 x6 x7 x8 x9 x10 x11 : Value) (x12 : Nat) (x13 : ClassId) (x14 : NI) : va_W := [(x0, .inr (3, [x1, x2, x3, .ref x4, x5, x6, x7, x8, x9, x10, x11])), (x12, .inl (x13, 7, .inl x14))]
def qpO (x0 x1 x2 x3 x4 : Nat) (x5 x6 : Int32) (x7 x8 x9 x10 x11 : Value) (x12 : Nat) (x13 : ClassId) (x14 : NI) (x15 : Nat) (x16 : ClassId) (x17 : NI) (x18 : Nat) (x19 : ClassId) (x20 : NI) (x21 : Nat) (x22 : ClassId) (x23 : NI) : va_W := [(x0, .inr (3, [.ref x1, .ref x2, .ref x3, .ref x4, .int x5, .int x6, x7, x8, x9, x10, x11])), (x12, .inl (x13, 7, .inl x14)), (x15, .inl (x16, 6, .inl x17)), (x18, .inl (x19, 8, .inl x20)), (x21, .inl (x22, 6, .inl x23))]
def qbaq (x0 x1 x2 x3 x4 : Nat) (x5 x6 : Int32) (x7 x8 x9 x10 x11 : Value) (x12 : Nat) (x13 : ClassId) (x14 : NI) (x15 : Nat) (x16 : ClassId) (x17 : NI) : va_W := [(x0, .inr (3, [.ref x1, .ref x2, .ref x3, .ref x4, .int x5, .int x6, x7, x8, x9, x10, x11])), (x12, .inl (x13, 8, .inl x14)), (x15, .inl (x16, 6, .inl x17))]
def qa52 (x0 x1 x2 x3 x4 : Nat) (x5 x6 : Int32) (x7 x8 x9 x10 x11 : Value) (x12 : Nat) (x13 : ClassId) (x14 : NI) : va_W := [(x0, .inr (3, [.ref x1, .ref x2, .ref x3, .ref x4, .int x5, .int x6, x7, x8, x9, x10, x11])), (x12, .inl (x13, 7, .inl x14))]
theorem qaE1 : ∀ w ∈ u_ws RX10 TX10 19, w ∈ wsX10_far := uiM qUQ qyN (by decide +kernel)
theorem qaIb : (.fieldLink RX10 19 "MarchHares" "ground" "LMarchHares$Down;" : Cond) ∈ wsX10_far := qUQ 20 (by decide +kernel)
set_option maxHeartbeats 4000000 in
set_option maxRecDepth 100000 in
theorem qa2j (l : Launch) (dC : Nat → ClassId) (dI : Nat → Nat → Nat) (cyB cyI cyJ cyP : ClassId) (a0 jaR jbs jbt sz : Nat) (jaK ja1 jcp jbc jbV ja3 jbH ja2 jbO jaq jac jbI jbl jbn jba jaa jdD jbo jbp jbk jbj jbf jbq jgP jbi jcd : Value) (jbE : Int32) (jci jcj : NI) (jdu p1 p2 : Int32) {E : String → Int32 → Prop} {Q : Int32 → Int32 → Prop} (hw : qakz jbE jci jcj jdu p1 p2 E Q) : vx_Met l yX10_far wsX10_far ({ frames := 7, cells := 2, slots := 12, locals := 141 }) (va_Pc [.ref a0, .int p1, .int p2] (cPx l (dC, dI) (kT cyB cyI cyJ cyP) (qJf a0 jaK jaR ja1 jcp jbc jbV ja3 jbH ja2 jbO jaq jac jbI jbl jbn jba jaa jdu jdD jaR jbs jbt jbo jbp jbk jbj jbf jbq jbE jgP jbi jcd jbs cyI jci jbt cyI jcj) sz)) (va_Qi (fun (r u : Int32) => Q r u) (cB (dC, dI) (kT cyB cyI cyJ cyP) (va_A (qJf a0 jaK jaR ja1 jcp jbc jbV ja3 jbH ja2 jbO jaq jac jbI jbl jbn jba jaa jdu jdD jaR jbs jbt jbo jbp jbk jbj jbf jbq jbE jgP jbi jcd jbs cyI jci jbt cyI jcj) sz) (fun u : Int32 => ((qJf a0 jaK jaR ja1 jcp jbc jbV ja3 jbH ja2 jbO jaq jac jbI jbl jbn jba jaa u jdD jaR jbs jbt jbo jbp jbk jbj jbf jbq jbE jgP jbi jcd jbs cyI jci jbt cyI jcj) : va_W))) (va_A (qJf a0 jaK jaR ja1 jcp jbc jbV ja3 jbH ja2 jbO jaq jac jbI jbl jbn jba jaa jdu jdD jaR jbs jbt jbo jbp jbk jbj jbf jbq jbE jgP jbi jcd jbs cyI jci jbt cyI jcj) sz)) (vx_X (fun _ => True) (fun (en : String) (u : Int32) (t : State) => E en u ∧ cB (dC, dI) (kT cyB cyI cyJ cyP) (va_A (qJf a0 jaK jaR ja1 jcp jbc jbV ja3 jbH ja2 jbO jaq jac jbI jbl jbn jba jaa jdu jdD jaR jbs jbt jbo jbp jbk jbj jbf jbq jbE jgP jbi jcd jbs cyI jci jbt cyI jcj) sz) (fun u : Int32 => ((qJf a0 jaK jaR ja1 jcp jbc jbV ja3 jbH ja2 jbO jaq jac jbI jbl jbn jba jaa u jdD jaR jbs jbt jbo jbp jbk jbj jbf jbq jbE jgP jbi jcd jbs cyI jci jbt cyI jcj) : va_W)) u t) (va_A (qJf a0 jaK jaR ja1 jcp jbc jbV ja3 jbH ja2 jbO jaq jac jbI jbl jbn jba jaa jdu jdD jaR jbs jbt jbo jbp jbk jbj jbf jbq jbE jgP jbi jcd jbs cyI jci jbt cyI jcj) sz)) 2 12 (va_A (qJf a0 jaK jaR ja1 jcp jbc jbV ja3 jbH ja2 jbO jaq jac jbI jbl jbn jba jaa jdu jdD jaR jbs jbt jbo jbp jbk jbj jbf jbq jbE jgP jbi jcd jbs cyI jci jbt cyI jcj) sz) := by
  refine vx_ofW (cc := cX10_far) (maxL := 3) (ret := (some .int)) (by decide) rfl ?_
  intro p e s m args below meth c s₁ B hml hnt hv
  obtain ⟨rfl, hsz, hP, hK, hD0, hNw, hXl, hXu, hXn, hXt⟩ := hv
  have hx := B.exec
  have hb := B.bytes
  have hr := B.returns
  have hts := atoms_spec (ws := wsX10_far) B.pre
  have hown : s.vm.findClass RX10 = some m.cls := findClass_of_methodNamed B.named
  have hlocks := B.notSynchronized
  subst hsz
  have hD := hD0.self (sz := s.heap.size)
  generalize hAe : va_A (qJf a0 jaK jaR ja1 jcp jbc jbV ja3 jbH ja2 jbO jaq jac jbI jbl jbn jba jaa jdu jdD jaR jbs jbt jbo jbp jbk jbj jbf jbq jbE jgP jbi jcd jbs cyI jci jbt cyI jcj) s.heap.size = A at hD hXu hXn ⊢
  have hA : ∀ q : Nat, s.heap.size ≤ q → A q := fun q h => by rw [← hAe]; exact Or.inr h
  have hS : va_S A s.heap s.heap [] := va_S.rf
  have hP : va_P (dC, dI) vwCl (qJf a0 jaK jaR ja1 jcp jbc jbV ja3 jbH ja2 jbO jaq jac jbI jbl jbn jba jaa jdu jdD jaR jbs jbt jbo jbp jbk jbj jbf jbq jbE jgP jbi jcd jbs cyI jci jbt cyI jcj) s.heap := hP
  have hl := lv_entry ([.ref a0, .int p1, .int p2]) (n := 3) (nbq rfl)
  rw [lg_entry_eq]
  generalize (lg_sl ([.ref a0, .int p1, .int p2]) ++ List.replicate (3 - (lg_sl ([.ref a0, .int p1, .int p2])).length) Slot.unset).toArray = ls at hl ⊢
  have hl : lv_has ls 3 [(0, .ref a0), (1, .int p1), (2, .int p2)] := hl
  have hY : cfY l s A := ⟨hXl, hXu, hXn, hXt⟩
  have hXs : cfX l s c A := ⟨hnt, hY⟩
  have C0 : cfx p s m _ meth c cX10_far (some .int) wsX10_far RX10 3 A (dC, dI) (kT cyB cyI cyJ cyP) ∧ cfX l s c A := ⟨⟨hx, hb, hr, hts, hown, hlocks, hml, hA, hK, hNw⟩, hXs⟩
  clear hAe
  obtain ⟨H, hH⟩ : ∃ H, H = s.heap := ⟨_, rfl⟩
  rw [← hH] at hP ⊢
  have hS : va_S A s.heap H [] := by rw [hH]; exact va_S.rf
  have hS := hS
  refine lv_aload_n hx hb (qaa qsK 0 rfl) rfl (lv_at hl 0 rfl) ?_
  refine lv_iload_n hx hb (qaa qsK 1 rfl) rfl (lv_at hl 1 rfl) ?_
  obtain ⟨hCc, hPc, hDc, hFc⟩ := qac (ws' := (qaMi a0 jaK jaR ja1 jcp jbc jbV ja3 jbH ja2 jbO jaq jac jbI jbl jbn jba jaa jdu jdD jaR jbs jbt jbo jbp jbk jbj jbf jbq jbE jgP jbi jcd)) hP hD hS hA [0, 1] (by decide +kernel) rfl
  refine vx_callv (vx_runV (As := [.int p1]) (rest := []) ⟨hx, hb, hml, hown, hts⟩ (qyj l dC dI cyB cyI cyJ cyP a0 jaR H.size (jaK) (ja1) (jcp) (jbc) (jbV) (ja3) (jbH) (ja2) (jbO) (jaq) (jac) (jbI) (jbl) (jbn) (jba) (jaa) (jdD) (.ref jbs) (.ref jbt) (jbo) (jbp) (jbk) (jbj) (jbf) (jbq) (jgP) (jbi) (jcd) jbE jdu p1 hw) (cwV 1 hts gX10_far_X10_needForm rfl rfl rfl (by decide +kernel) ⟨nbq rfl, nbq rfl⟩) ⟨qav, va_recv (q := (RX10, TX10, 19)) hK hPc (ci := 10) (q0 := 0) rfl rfl, qbl hPc hK hDc hNw hY hS hFc⟩ rfl rfl hl.1 rfl (lv_room (nbq rfl)) (qaa qsK 2 rfl) ⟨nbq rfl, nbq rfl⟩) hS (fun q _ h => hFc q h) hFc (fun q _ h => hFc q h) (fun en ce q9 u t H1 locs ht hvm hpx hB hz1 hk1 hS hc9 hv9 hcl9 => ?_) (fun u t H1 locs ht hvm hw hB hz1 hk1 hS => ?_)
  · obtain ⟨x1, rfl⟩ : ∃ z, z = u := ⟨_, rfl⟩
    obtain ⟨hw, hP1, hK1, hD1⟩ := hB
    rw [ht] at hP1
    obtain ⟨hP, hD⟩ := qad (wr := (qa1o jbs cyI jci jbt cyI jcj)) (w1 := (qaMi a0 jaK jaR ja1 jcp jbc jbV ja3 jbH ja2 jbO jaq jac jbI jbl jbn jba jaa x1 jdD jaR jbs jbt jbo jbp jbk jbj jbf jbq jbE jgP jbi jcd)) (wn := (qJf a0 jaK jaR ja1 jcp jbc jbV ja3 jbH ja2 jbO jaq jac jbI jbl jbn jba jaa x1 jdD jaR jbs jbt jbo jbp jbk jbj jbf jbq jbE jgP jbi jcd jbs cyI jci jbt cyI jcj)) hP hD [0, 1] [2, 3] [2, 3, 0, 1] hCc rfl (by decide +kernel) (by decide +kernel) (by decide +kernel) rfl hk1 hFc hP1 hD1
    generalize H1 = H at hP hS hc9 ⊢
    exact vx_out (fun x hx9 => (hXs.1 x hx9).elim) hlocks hc9 hv9 hcl9 (fun t2 ht2 hal2 => ⟨(x1), trivial, ⟨hw, by rw [ht2]; exact hP, va_K.moved hal2 hK, hD⟩, hS.F ht2⟩) hS.2.2 (nbq rfl) (nbq rfl)
  obtain ⟨x1, rfl⟩ : ∃ z, z = u := ⟨_, rfl⟩
  obtain ⟨hP1, hK1, hD1⟩ := hB
  rw [ht] at hP1
  obtain ⟨hP, hD⟩ := qad (wr := (qa1o jbs cyI jci jbt cyI jcj)) (w1 := (qaMi a0 jaK jaR ja1 jcp jbc jbV ja3 jbH ja2 jbO jaq jac jbI jbl jbn jba jaa x1 jdD jaR jbs jbt jbo jbp jbk jbj jbf jbq jbE jgP jbi jcd)) (wn := (qJf a0 jaK jaR ja1 jcp jbc jbV ja3 jbH ja2 jbO jaq jac jbI jbl jbn jba jaa x1 jdD jaR jbs jbt jbo jbp jbk jbj jbf jbq jbE jgP jbi jcd jbs cyI jci jbt cyI jcj)) hP hD [0, 1] [2, 3] [2, 3, 0, 1] hCc rfl (by decide +kernel) (by decide +kernel) (by decide +kernel) rfl hk1 hFc hP1 hD1
  generalize H1 = H at hP hS ⊢
  refine lv_aload_n hx hb (qaa qsK 3 rfl) rfl (lv_at hl 0 rfl) ?_
  refine lv_iload_n hx hb (qaa qsK 4 rfl) rfl (lv_at hl 2 rfl) ?_
  obtain ⟨hCc, hPc, hDc, hFc⟩ := qac (ws' := (qaMi a0 jaK jaR ja1 jcp jbc jbV ja3 jbH ja2 jbO jaq jac jbI jbl jbn jba jaa x1 jdD jaR jbs jbt jbo jbp jbk jbj jbf jbq jbE jgP jbi jcd)) hP hD hS hA [0, 1] (by decide +kernel) rfl
  refine vx_callv (vx_runV (As := [.int p2]) (rest := []) ⟨hx, hb, hml, hown, hts⟩ (qyj l dC dI cyB cyI cyJ cyP a0 jaR H.size (jaK) (ja1) (jcp) (jbc) (jbV) (ja3) (jbH) (ja2) (jbO) (jaq) (jac) (jbI) (jbl) (jbn) (jba) (jaa) (jdD) (.ref jbs) (.ref jbt) (jbo) (jbp) (jbk) (jbj) (jbf) (jbq) (jgP) (jbi) (jcd) jbE x1 p2 hw) (cwV 1 hts gX10_far_X10_needForm rfl rfl rfl (by decide +kernel) ⟨nbq rfl, nbq rfl⟩) ⟨qav, va_recv (q := (RX10, TX10, 19)) hK hPc (ci := 10) (q0 := 0) rfl rfl, qbl hPc hK hDc hNw hY hS hFc⟩ rfl rfl hl.1 rfl (lv_room (nbq rfl)) (qaa qsK 5 rfl) ⟨nbq rfl, nbq rfl⟩) hS (fun q _ h => hFc q h) hFc (fun q _ h => hFc q h) (fun en ce q9 u t H1 locs ht hvm hpx hB hz1 hk1 hS hc9 hv9 hcl9 => ?_) (fun u t H1 locs ht hvm hw hB hz1 hk1 hS => ?_)
  · obtain ⟨x2, rfl⟩ : ∃ z, z = u := ⟨_, rfl⟩
    obtain ⟨hw, hP1, hK1, hD1⟩ := hB
    rw [ht] at hP1
    obtain ⟨hP, hD⟩ := qad (wr := (qa1o jbs cyI jci jbt cyI jcj)) (w1 := (qaMi a0 jaK jaR ja1 jcp jbc jbV ja3 jbH ja2 jbO jaq jac jbI jbl jbn jba jaa x2 jdD jaR jbs jbt jbo jbp jbk jbj jbf jbq jbE jgP jbi jcd)) (wn := (qJf a0 jaK jaR ja1 jcp jbc jbV ja3 jbH ja2 jbO jaq jac jbI jbl jbn jba jaa x2 jdD jaR jbs jbt jbo jbp jbk jbj jbf jbq jbE jgP jbi jcd jbs cyI jci jbt cyI jcj)) hP hD [0, 1] [2, 3] [2, 3, 0, 1] hCc rfl (by decide +kernel) (by decide +kernel) (by decide +kernel) rfl hk1 hFc hP1 hD1
    generalize H1 = H at hP hS hc9 ⊢
    exact vx_out (fun x hx9 => (hXs.1 x hx9).elim) hlocks hc9 hv9 hcl9 (fun t2 ht2 hal2 => ⟨(x2), trivial, ⟨hw, by rw [ht2]; exact hP, va_K.moved hal2 hK, hD⟩, hS.F ht2⟩) hS.2.2 (nbq rfl) (nbq rfl)
  obtain ⟨x2, rfl⟩ : ∃ z, z = u := ⟨_, rfl⟩
  obtain ⟨hP1, hK1, hD1⟩ := hB
  rw [ht] at hP1
  obtain ⟨hP, hD⟩ := qad (wr := (qa1o jbs cyI jci jbt cyI jcj)) (w1 := (qaMi a0 jaK jaR ja1 jcp jbc jbV ja3 jbH ja2 jbO jaq jac jbI jbl jbn jba jaa x2 jdD jaR jbs jbt jbo jbp jbk jbj jbf jbq jbE jgP jbi jcd)) (wn := (qJf a0 jaK jaR ja1 jcp jbc jbV ja3 jbH ja2 jbO jaq jac jbI jbl jbn jba jaa x2 jdD jaR jbs jbt jbo jbp jbk jbj jbf jbq jbE jgP jbi jcd jbs cyI jci jbt cyI jcj)) hP hD [0, 1] [2, 3] [2, 3, 0, 1] hCc rfl (by decide +kernel) (by decide +kernel) (by decide +kernel) rfl hk1 hFc hP1 hD1
  generalize H1 = H at hP hS ⊢
  refine lv_aload_n hx hb (qaa qsK 6 rfl) rfl (lv_at hl 0 rfl) ?_
  refine va_get (D := (dC, dI)) (ci := 10) (v := .ref jaR) (C := RX10) (T := TX10) (N := 19) hx hb hts qaE1 hown hK hP 0 rfl rfl 1 (by decide) (hts _ qaIb) (fun _ h9 => h9) rfl (qaa qsK 7 rfl) ?_
  refine lv_iload_n hx hb (qaa qsK 8 rfl) rfl (lv_at hl 1 rfl) ?_
  refine lv_iload_n hx hb (qaa qsK 9 rfl) rfl (lv_at hl 2 rfl) ?_
  obtain ⟨hCc, hPc, hDc, hFc⟩ := qac (ws' := (qny jaR jbs jbt jbo jbp jbk jbj jbf jbq jbE jgP jbi jcd jbs cyI jci jbt cyI jcj)) hP hD hS hA [1, 2, 3] (by decide +kernel) rfl
  refine va_calli (va_runV (As := [.int p1, .int p2]) (rest := []) ⟨hx, hb, hml, hown, hts⟩ (qBF l dC dI cyB cyI cyJ cyP jaR jbs jbt H.size (jbo) (jbp) (jbk) (jbj) (jbf) (jbq) (.int jbE) (jgP) (jbi) (jcd) jci jcj p1 p2 hw) (cwV 2 hts gX10_far_X2_apart rfl rfl rfl (by decide +kernel) ⟨nbq rfl, nbq rfl⟩) ⟨qab, va_recv (q := (RX2, TX2, 12)) hK hPc (ci := 2) (q0 := 0) rfl rfl, qae hPc hK hDc hNw⟩ rfl rfl hl.1 rfl (lv_room (nbq rfl)) (qaa qsK 10 rfl) ⟨nbq rfl, nbq rfl⟩) hS (fun q _ h => hFc q h) hFc (fun r3 u t H1 locs ht hvm hw hB hz1 hk1 hS => ?_)
  obtain ⟨hP1, hK1, hD1⟩ := hB
  rw [ht] at hP1
  obtain ⟨hP, hD⟩ := qah (wr := [(a0, .inr (10, [jaK, .ref jaR, ja1, jcp, jbc, jbV, ja3, jbH, ja2, jbO, jaq, jac, jbI, jbl, jbn, jba, jaa, .int x2, jdD]))]) (w1 := (qny jaR jbs jbt jbo jbp jbk jbj jbf jbq jbE jgP jbi jcd jbs cyI jci jbt cyI jcj)) (wn := (qJf a0 jaK jaR ja1 jcp jbc jbV ja3 jbH ja2 jbO jaq jac jbI jbl jbn jba jaa x2 jdD jaR jbs jbt jbo jbp jbk jbj jbf jbq jbE jgP jbi jcd jbs cyI jci jbt cyI jcj)) hP hD [1, 2, 3] [0] hCc rfl (by decide +kernel) (by decide +kernel) rfl hk1 hFc hP1 hD1
  generalize H1 = H at hP hS ⊢
  exact vx_ret (W.widen (k := 2) (n := 12) (nbq rfl) (nbq rfl) (W.iret (v := r3) hx hb hr (fun t ht hW => ⟨⟨r3, (x2), rfl, hw, by rw [ht]; exact hP, va_K.moved hW.alike hK, hD⟩, hS.F ht⟩) hS.2.2 (qaa qsK 11 rfl)))
theorem qaPz : (.classLink RL 31 "java/util/NoSuchElementException" : Cond) ∈ wsL_far := qaPi 2639 (by decide +kernel)
theorem qaZq : (.codeWith yL_far cL_far 5 (some .int) [(0, 10, 13, 31)] : Cond) ∈ wsL_far := qaPi 2838 (by decide +kernel)
set_option maxHeartbeats 4000000 in
set_option maxRecDepth 100000 in
theorem qbbX (l : Launch) (dC : Nat → ClassId) (dI : Nat → Nat → Nat) (cyB cyI cyJ cyP : ClassId) (a0 a3 jaR jbs jbt sz : Nat) (jaK ja1 jcp jbc jbV ja3 jbH ja2 jbO jaq jac jbI jbl jbn jba jaa jdD jbo jbp jbk jbj jbf jbq jgP jbi jcd : Value) (n3 : Nat) (jbE : Int32) (jci jcj : NI) (jdu : Int32) (f3 : Nat → Int64) (p1 p2 : Int32) {Q : Int32 → Int32 → (Nat → Int64) → Prop} (hw : qa0n n3 jbE jci jcj jdu f3 p1 p2 Q) : Met l yL_far wsL_far ({ frames := 8, cells := 2, slots := 12, locals := 163 }) (va_Pc [.ref a0, .int p1, .int p2, .ref a3] (cPx l (dC, dI) (kT cyB cyI cyJ cyP) (qZI a0 jaK jaR ja1 jcp jbc jbV ja3 jbH ja2 jbO jaq jac jbI jbl jbn jba jaa jdu jdD jaR jbs jbt jbo jbp jbk jbj jbf jbq jbE jgP jbi jcd jbs cyI jci jbt cyI jcj a3 cyJ n3 f3) sz)) (va_Qi (fun (r : Int32) (u : Int32 × (Nat → Int64)) => Q r u.1 u.2) (cB (dC, dI) (kT cyB cyI cyJ cyP) (va_A (qZI a0 jaK jaR ja1 jcp jbc jbV ja3 jbH ja2 jbO jaq jac jbI jbl jbn jba jaa jdu jdD jaR jbs jbt jbo jbp jbk jbj jbf jbq jbE jgP jbi jcd jbs cyI jci jbt cyI jcj a3 cyJ n3 f3) sz) (fun u : Int32 × (Nat → Int64) => ((qZI a0 jaK jaR ja1 jcp jbc jbV ja3 jbH ja2 jbO jaq jac jbI jbl jbn jba jaa u.1 jdD jaR jbs jbt jbo jbp jbk jbj jbf jbq jbE jgP jbi jcd jbs cyI jci jbt cyI jcj a3 cyJ n3 u.2) : va_W))) (va_A (qZI a0 jaK jaR ja1 jcp jbc jbV ja3 jbH ja2 jbO jaq jac jbI jbl jbn jba jaa jdu jdD jaR jbs jbt jbo jbp jbk jbj jbf jbq jbE jgP jbi jcd jbs cyI jci jbt cyI jcj a3 cyJ n3 f3) sz)) 2 12 (va_A (qZI a0 jaK jaR ja1 jcp jbc jbV ja3 jbH ja2 jbO jaq jac jbI jbl jbn jba jaa jdu jdD jaR jbs jbt jbo jbp jbk jbj jbf jbq jbE jgP jbi jcd jbs cyI jci jbt cyI jcj a3 cyJ n3 f3) sz) := by
  refine va_MetW (cc := cL_far) (maxL := 5) (ret := (some .int)) (by decide) rfl ?_
  intro p e s m args below meth c s₁ B hml hv
  obtain ⟨rfl, hsz, hP, hK, hD0, hNw, hXl, hXu, hXn, hXt⟩ := hv
  have hx := B.exec
  have hb := B.bytes
  have hr := B.returns
  have hts := atoms_spec (ws := wsL_far) B.pre
  have hown : s.vm.findClass RL = some m.cls := findClass_of_methodNamed B.named
  have hlocks := B.notSynchronized
  subst hsz
  have hD := hD0.self (sz := s.heap.size)
  generalize hAe : va_A (qZI a0 jaK jaR ja1 jcp jbc jbV ja3 jbH ja2 jbO jaq jac jbI jbl jbn jba jaa jdu jdD jaR jbs jbt jbo jbp jbk jbj jbf jbq jbE jgP jbi jcd jbs cyI jci jbt cyI jcj a3 cyJ n3 f3) s.heap.size = A at hD hXu hXn ⊢
  have hA : ∀ q : Nat, s.heap.size ≤ q → A q := fun q h => by rw [← hAe]; exact Or.inr h
  have hS : va_S A s.heap s.heap [] := va_S.rf
  have hP : va_P (dC, dI) vwCl (qZI a0 jaK jaR ja1 jcp jbc jbV ja3 jbH ja2 jbO jaq jac jbI jbl jbn jba jaa jdu jdD jaR jbs jbt jbo jbp jbk jbj jbf jbq jbE jgP jbi jcd jbs cyI jci jbt cyI jcj a3 cyJ n3 f3) s.heap := hP
  have hl := lv_entry ([.ref a0, .int p1, .int p2, .ref a3]) (n := 5) (nbq rfl)
  rw [lg_entry_eq]
  generalize (lg_sl ([.ref a0, .int p1, .int p2, .ref a3]) ++ List.replicate (5 - (lg_sl ([.ref a0, .int p1, .int p2, .ref a3])).length) Slot.unset).toArray = ls at hl ⊢
  have hl : lv_has ls 5 [(0, .ref a0), (1, .int p1), (2, .int p2), (3, .ref a3)] := hl
  have hY : cfY l s A := ⟨hXl, hXu, hXn, hXt⟩
  have hTb := vx_table (x := yL_far) B (hts _ qaZq)
  clear hAe
  obtain ⟨H, hH⟩ : ∃ H, H = s.heap := ⟨_, rfl⟩
  rw [← hH] at hP ⊢
  have hS : va_S A s.heap H [] := by rw [hH]; exact va_S.rf
  have hS := hS
  refine lv_aload_n hx hb (qaa quo 0 rfl) rfl (lv_at hl 3 rfl) ?_
  refine lv_iconst (v := 0) hx hb (qaa quo 1 rfl) (by decide) ?_
  refine lv_aload_n hx hb (qaa quo 2 rfl) rfl (lv_at hl 0 rfl) ?_
  refine lv_iload_n hx hb (qaa quo 3 rfl) rfl (lv_at hl 1 rfl) ?_
  refine lv_iload_n hx hb (qaa quo 4 rfl) rfl (lv_at hl 2 rfl) ?_
  obtain ⟨hCc, hPc, hDc, hFc⟩ := qac (ws' := (qJf a0 jaK jaR ja1 jcp jbc jbV ja3 jbH ja2 jbO jaq jac jbI jbl jbn jba jaa jdu jdD jaR jbs jbt jbo jbp jbk jbj jbf jbq jbE jgP jbi jcd jbs cyI jci jbt cyI jcj)) hP hD hS hA [0, 1, 2, 3] (by decide +kernel) rfl
  refine vx_calli (vx_runV (As := [.int p1, .int p2]) (rest := [.int 0, .ref a3]) ⟨hx, hb, hml, hown, hts⟩ (qa2j l dC dI cyB cyI cyJ cyP a0 jaR jbs jbt H.size (jaK) (ja1) (jcp) (jbc) (jbV) (ja3) (jbH) (ja2) (jbO) (jaq) (jac) (jbI) (jbl) (jbn) (jba) (jaa) (jdD) (jbo) (jbp) (jbk) (jbj) (jbf) (jbq) (jgP) (jbi) (jcd) jbE jci jcj jdu p1 p2 hw) (cwV 2 hts gL_far_X10_far rfl rfl rfl (by decide +kernel) ⟨nbq rfl, nbq rfl⟩) ⟨qav, va_recv (q := (RX10, TX10, 19)) hK hPc (ci := 10) (q0 := 0) rfl rfl, qbl hPc hK hDc hNw hY hS hFc⟩ rfl rfl hl.1 rfl (lv_room (nbq rfl)) (qaa quo 5 rfl) ⟨nbq rfl, nbq rfl⟩) hS (fun q _ h => hFc q h) hFc (fun q _ h => hFc q h) (fun en ce qx9 u t H1 locs ht hvm hpx hB hz1 hk1 hS hc9 hv9 hcl9 => ?_) (fun r2 u t H1 locs ht hvm hw hB hz1 hk1 hS => ?_)
  · obtain ⟨x1, rfl⟩ : ∃ z, z = u := ⟨_, rfl⟩
    obtain ⟨hw, hP1, hK1, hD1⟩ := hB
    rw [ht] at hP1
    obtain ⟨hP, hD⟩ := qad (wr := [(a3, .inl (cyJ, n3, .inr (.inl f3)))]) (w1 := (qJf a0 jaK jaR ja1 jcp jbc jbV ja3 jbH ja2 jbO jaq jac jbI jbl jbn jba jaa x1 jdD jaR jbs jbt jbo jbp jbk jbj jbf jbq jbE jgP jbi jcd jbs cyI jci jbt cyI jcj)) (wn := (qZI a0 jaK jaR ja1 jcp jbc jbV ja3 jbH ja2 jbO jaq jac jbI jbl jbn jba jaa x1 jdD jaR jbs jbt jbo jbp jbk jbj jbf jbq jbE jgP jbi jcd jbs cyI jci jbt cyI jcj a3 cyJ n3 f3)) hP hD [0, 1, 2, 3] [4] [1, 2, 3, 4, 0] hCc rfl (by decide +kernel) (by decide +kernel) (by decide +kernel) rfl hk1 hFc hP1 hD1
    generalize H1 = H at hP hS hc9 ⊢
    obtain ⟨rfl, hw⟩ := hw
    refine vx_catch (own := RL) (name := "java/util/NoSuchElementException") hown [] ⟨0, 10, 13, 31⟩ [] (hTb.trans rfl) (fun z hz => nomatch hz) (by decide) (by decide) (hts _ qaPz) (va_Nw.use rfl (hY.2.2.2.1.2 _ (List.mem_of_getElem? (i := 1) rfl))) hc9 hv9 hcl9 ?_
    refine lv_astore (lv' := [(4, .ref qx9), (0, .ref a0), (1, .int p1), (2, .int p2), (3, .ref a3)]) hx hb (qaa quo 9 rfl) hl (by decide) rfl (fun ls hl => ?_)
    refine lv_iconst (v := 1) hx hb (qaa quo 10 rfl) (by decide) ?_
    exact (W.widen (k := 2) (n := 12) (nbq rfl) (nbq rfl) (W.iret (v := 1) hx hb hr (fun t ht hW => ⟨⟨1, (x1, f3), rfl, hw, by rw [ht]; exact hP, va_K.moved hW.alike hK, hD⟩, hS.F ht⟩) hS.2.2 (qaa quo 11 rfl)))
  obtain ⟨x1, rfl⟩ : ∃ z, z = u := ⟨_, rfl⟩
  obtain ⟨hP1, hK1, hD1⟩ := hB
  rw [ht] at hP1
  obtain ⟨hP, hD⟩ := va_join (wr := [(a3, .inl (cyJ, n3, .inr (.inl f3)))]) (w1 := (qJf a0 jaK jaR ja1 jcp jbc jbV ja3 jbH ja2 jbO jaq jac jbI jbl jbn jba jaa x1 jdD jaR jbs jbt jbo jbp jbk jbj jbf jbq jbE jgP jbi jcd jbs cyI jci jbt cyI jcj)) hP hD [0, 1, 2, 3] [4] rfl rfl (by decide) (by decide) hk1 hFc hP1 hD1
  have hP : va_P (dC, dI) vwCl (qZI a0 jaK jaR ja1 jcp jbc jbV ja3 jbH ja2 jbO jaq jac jbI jbl jbn jba jaa x1 jdD jaR jbs jbt jbo jbp jbk jbj jbf jbq jbE jgP jbi jcd jbs cyI jci jbt cyI jcj a3 cyJ n3 f3) H1 := hP.sub [1, 2, 3, 4, 0] rfl
  have hD : va_D A (qZI a0 jaK jaR ja1 jcp jbc jbV ja3 jbH ja2 jbO jaq jac jbI jbl jbn jba jaa x1 jdD jaR jbs jbt jbo jbp jbk jbj jbf jbq jbE jgP jbi jcd jbs cyI jci jbt cyI jcj a3 cyJ n3 f3) := hD.sub [1, 2, 3, 4, 0] (by decide) rfl
  generalize H1 = H at hP hS ⊢
  refine lv_i2l (v := r2.toInt64) hx hb (qaa quo 6 rfl) rfl ?_
  refine lv_topl (fun x3 ex3 => ?_)
  have hw := hw x3 ex3
  obtain ⟨hi9, hw⟩ := hw
  refine va_last hx hb hK hP hD hS 4 2 rfl rfl hi9 (qaa quo 7 rfl) (fun H locs hP hD hS => ?_)
  obtain ⟨f4, ef4⟩ : ∃ y : Nat → Int64, y = vp_updL f3 (0 : Int32).toNatClampNeg x3 := ⟨_, rfl⟩
  have hw := hw f4 ef4
  have hP : va_P (dC, dI) vwCl (qZI a0 jaK jaR ja1 jcp jbc jbV ja3 jbH ja2 jbO jaq jac jbI jbl jbn jba jaa x1 jdD jaR jbs jbt jbo jbp jbk jbj jbf jbq jbE jgP jbi jcd jbs cyI jci jbt cyI jcj a3 cyJ n3 f4) H := by rw [ef4]; exact hP
  have hD : va_D A (qZI a0 jaK jaR ja1 jcp jbc jbV ja3 jbH ja2 jbO jaq jac jbI jbl jbn jba jaa x1 jdD jaR jbs jbt jbo jbp jbk jbj jbf jbq jbE jgP jbi jcd jbs cyI jci jbt cyI jcj a3 cyJ n3 f4) := by rw [ef4]; exact hD
  refine lv_goto (tgt := 17) hx hb (qaa quo 8 rfl) (by decide) ?_
  refine lv_iconst (v := 0) hx hb (qaa quo 12 rfl) (by decide) ?_
  exact (W.widen (k := 2) (n := 12) (nbq rfl) (nbq rfl) (W.iret (v := 0) hx hb hr (fun t ht hW => ⟨⟨0, (x1, f4), rfl, hw, by rw [ht]; exact hP, va_K.moved hW.alike hK, hD⟩, hS.F ht⟩) hS.2.2 (qaa quo 13 rfl)))
set_option maxHeartbeats 4000000 in
set_option maxRecDepth 100000 in
theorem qauV {p : Program} {l : Launch} {e : Env} {s : State} {m : MethodId} {args : Array Value} {below : List Frame} {meth : Method} {c : Code} {A : Nat → Prop} (dC : Nat → ClassId) (dI : Nat → Nat → Nat) (cyB cyI cyJ cyP : ClassId) (Q : Int64 → Prop) (C0 : cfx p s m args meth c cX10_choices (some .long) wsX10_choices RX10 5 A (dC, dI) (kT cyB cyI cyJ cyP)) : ∀ (n : Nat) (H : Heap) (locs : List Loc) (ls : Array Slot) (l0 l1 : Int32) (l2 : Int64) (l4 : Int32), va_P (dC, dI) vwCl [] H → va_D A [] → va_S A s.heap H locs → lv_has ls 5 [(0, .int l0), (1, .int l1), (2, .long l2), (4, .int l4)] → qEC Q n l0 l1 l2 l4 → W p l e (headSpec wsX10_choices ({ frames := 0, cells := 0, slots := 0, locals := 0 })).room s m args below meth c H locs 0 0 (MQ below (va_Ql (fun (r : Int64) (_ : Unit) => Q r ) (cB (dC, dI) (kT cyB cyI cyJ cyP) A (fun u : Unit => ([] : va_W))) A) args s 0 0 A) (F0 m 5 ls []) := by
  obtain ⟨hx, hb, hr, hts, hown, hlocks, hml, hA, hK, hNw⟩ := id C0
  intro n
  induction n with
  | zero => intro H locs ls l0 l1 l2 l4 hP hD hS hl hw; exact False.elim hw
  | succ n ih =>
    intro H locs ls l0 l1 l2 l4 hP hD hS hl hw
    refine lv_iload hx hb (qaa qfB 4 rfl) (lv_at hl 3 rfl) ?_
    refine lv_iload_n hx hb (qaa qfB 5 rfl) rfl (lv_at hl 1 rfl) ?_
    refine lv_icmp_gt (tgt := 31) hx hb (qaa qfB 6 rfl) (by decide) (fun c1 => ?_) (fun c1 => ?_)
    · have hw := hw.1 c1
      refine lv_lload_n hx hb (qaa qs8 5 rfl) rfl (lv_at hl 2 rfl) ?_
      exact ((W.lret (v := l2) hx hb hr (fun t ht hW => ⟨⟨l2, (), rfl, hw, by rw [ht]; exact hP, va_K.moved hW.alike hK, hD⟩, hS.F ht⟩) hS.2.2 (qaa qs8 6 rfl)))
    · have hw := hw.2 c1
      refine lv_lload_n hx hb (qaa qfB 7 rfl) rfl (lv_at hl 2 rfl) ?_
      refine lv_iload_n hx hb (qaa qfB 8 rfl) rfl (lv_at hl 0 rfl) ?_
      refine lv_iload hx hb (qaa qfB 9 rfl) (lv_at hl 3 rfl) ?_
      refine lv_isub hx hb (qaa qfB 10 rfl) ?_
      refine lv_iconst (v := 1) hx hb (qaa qfB 11 rfl) (by decide) ?_
      refine lv_iadd hx hb (qaa qfB 12 rfl) ?_
      refine lv_i2l (v := ((l0 - l4) + 1).toInt64) hx hb (qaa qfB 13 rfl) rfl ?_
      refine lv_lmul hx hb (qaa qfB 14 rfl) ?_
      refine lv_iload hx hb (qaa qfB 15 rfl) (lv_at hl 3 rfl) ?_
      refine lv_i2l (v := l4.toInt64) hx hb (qaa qs8 0 rfl) rfl ?_
      obtain ⟨hz9, hw⟩ := hw
      refine lv_ldiv hx hb (qaa qs8 1 rfl) hz9 ?_
      refine lv_topl (fun x2 ex2 => ?_)
      have hw := hw x2 ex2
      refine lv_lstore_n (lv' := [(2, .long x2), (0, .int l0), (1, .int l1), (4, .int l4)]) hx hb (qaa qs8 2 rfl) rfl hl (by decide) rfl (fun ls hl => ?_)
      obtain ⟨x3, ex3⟩ : ∃ y : Int32, y = l4 + 1 := ⟨_, rfl⟩
      have hw := hw x3 ex3
      refine lv_iinc (v := x3) (lv' := [(4, .int x3), (2, .long x2), (0, .int l0), (1, .int l1)]) hx hb (qaa qs8 3 rfl) hl (k := 3) rfl (by rw [ex3]; rfl) (by decide) rfl (fun ls hl => ?_)
      refine lv_goto (tgt := 5) hx hb (qaa qs8 4 rfl) (by decide) ?_
      exact ih _ _ _ l0 l1 x2 x3 hP hD hS (lv_sub hl [2, 3, 1, 0] rfl) hw
set_option maxHeartbeats 4000000 in
set_option maxRecDepth 100000 in
theorem qaIG (l : Launch) (dC : Nat → ClassId) (dI : Nat → Nat → Nat) (cyB cyI cyJ cyP : ClassId) (sz : Nat) (p0 p1 : Int32) {Q : Int64 → Prop} (hw : qUD p0 p1 Q) : Met l yX10_choices wsX10_choices ({ frames := 0, cells := 0, slots := 0, locals := 0 }) (va_Pc [.int p0, .int p1] (cPc (dC, dI) (kT cyB cyI cyJ cyP) [] sz)) (va_Ql (fun (r : Int64) (_ : Unit) => Q r ) (cB (dC, dI) (kT cyB cyI cyJ cyP) (va_A [] sz) (fun u : Unit => ([] : va_W))) (va_A [] sz)) 0 0 (va_A [] sz) := by
  refine Met.ofW (cc := cX10_choices) (maxL := 5) (ret := (some .long)) (by decide) rfl ?_
  intro p e s m args below meth c s₁ B hml hv
  obtain ⟨rfl, hsz, hP, hK, hD0, hNw⟩ := hv
  have hx := B.exec
  have hb := B.bytes
  have hr := B.returns
  have hts := atoms_spec (ws := wsX10_choices) B.pre
  have hown : s.vm.findClass RX10 = some m.cls := findClass_of_methodNamed B.named
  have hlocks := B.notSynchronized
  subst hsz
  have hD := hD0.self (sz := s.heap.size)
  generalize hAe : va_A [] s.heap.size = A at hD ⊢
  have hA : ∀ q : Nat, s.heap.size ≤ q → A q := fun q h => by rw [← hAe]; exact Or.inr h
  have hS : va_S A s.heap s.heap [] := va_S.rf
  have hP : va_P (dC, dI) vwCl [] s.heap := hP
  have hl := lv_entry ([.int p0, .int p1]) (n := 5) (nbq rfl)
  rw [lg_entry_eq]
  generalize (lg_sl ([.int p0, .int p1]) ++ List.replicate (5 - (lg_sl ([.int p0, .int p1])).length) Slot.unset).toArray = ls at hl ⊢
  have hl : lv_has ls 5 [(0, .int p0), (1, .int p1)] := hl
  have C0 : cfx p s m _ meth c cX10_choices (some .long) wsX10_choices RX10 5 A (dC, dI) (kT cyB cyI cyJ cyP) := ⟨hx, hb, hr, hts, hown, hlocks, hml, hA, hK, hNw⟩
  clear hAe
  obtain ⟨H, hH⟩ : ∃ H, H = s.heap := ⟨_, rfl⟩
  rw [← hH] at hP ⊢
  have hS : va_S A s.heap H [] := by rw [hH]; exact va_S.rf
  have hS := hS
  refine lv_lconst (v := 1) hx hb (qaa qfB 0 rfl) (by decide) ?_
  refine lv_lstore_n (lv' := [(2, .long 1), (0, .int p0), (1, .int p1)]) hx hb (qaa qfB 1 rfl) rfl hl (by decide) rfl (fun ls hl => ?_)
  refine lv_iconst (v := 1) hx hb (qaa qfB 2 rfl) (by decide) ?_
  refine lv_istore (lv' := [(4, .int 1), (2, .long 1), (0, .int p0), (1, .int p1)]) hx hb (qaa qfB 3 rfl) hl (by decide) rfl (fun ls hl => ?_)
  obtain ⟨n9, hw⟩ := hw
  exact qauV dC dI cyB cyI cyJ cyP Q C0 n9 _ _ _ p0 p1 1 1 hP hD hS (lv_sub hl [2, 3, 1, 0] rfl) hw
set_option maxHeartbeats 4000000 in
set_option maxRecDepth 100000 in
theorem qaEM {p : Program} {l : Launch} {e : Env} {s : State} {m : MethodId} {args : Array Value} {below : List Frame} {meth : Method} {c : Code} {A : Nat → Prop} (dC : Nat → ClassId) (dI : Nat → Nat → Nat) (cyB cyI cyJ cyP : ClassId) (Q : Int64 → Prop) (C0 : cfx p s m args meth c cX10_power (some .long) wsX10_power RX10 5 A (dC, dI) (kT cyB cyI cyJ cyP)) : ∀ (n : Nat) (H : Heap) (locs : List Loc) (ls : Array Slot) (l0 l1 : Int32) (l2 : Int64) (l4 : Int32), va_P (dC, dI) vwCl [] H → va_D A [] → va_S A s.heap H locs → lv_has ls 5 [(0, .int l0), (1, .int l1), (2, .long l2), (4, .int l4)] → qKp Q n l0 l1 l2 l4 → W p l e (headSpec wsX10_power ({ frames := 0, cells := 0, slots := 0, locals := 0 })).room s m args below meth c H locs 0 0 (MQ below (va_Ql (fun (r : Int64) (_ : Unit) => Q r ) (cB (dC, dI) (kT cyB cyI cyJ cyP) A (fun u : Unit => ([] : va_W))) A) args s 0 0 A) (F0 m 5 ls []) := by
  obtain ⟨hx, hb, hr, hts, hown, hlocks, hml, hA, hK, hNw⟩ := id C0
  intro n
  induction n with
  | zero => intro H locs ls l0 l1 l2 l4 hP hD hS hl hw; exact False.elim hw
  | succ n ih =>
    intro H locs ls l0 l1 l2 l4 hP hD hS hl hw
    refine lv_iload hx hb (qaa qku 4 rfl) (lv_at hl 3 rfl) ?_
    refine lv_iload_n hx hb (qaa qku 5 rfl) rfl (lv_at hl 1 rfl) ?_
    refine lv_icmp_ge (tgt := 22) hx hb (qaa qku 6 rfl) (by decide) (fun c1 => ?_) (fun c1 => ?_)
    · have hw := hw.1 c1
      refine lv_lload_n hx hb (qaa qku 14 rfl) rfl (lv_at hl 2 rfl) ?_
      exact ((W.lret (v := l2) hx hb hr (fun t ht hW => ⟨⟨l2, (), rfl, hw, by rw [ht]; exact hP, va_K.moved hW.alike hK, hD⟩, hS.F ht⟩) hS.2.2 (qaa qku 15 rfl)))
    · have hw := hw.2 c1
      refine lv_lload_n hx hb (qaa qku 7 rfl) rfl (lv_at hl 2 rfl) ?_
      refine lv_iload_n hx hb (qaa qku 8 rfl) rfl (lv_at hl 0 rfl) ?_
      refine lv_i2l (v := l0.toInt64) hx hb (qaa qku 9 rfl) rfl ?_
      refine lv_lmul hx hb (qaa qku 10 rfl) ?_
      refine lv_topl (fun x2 ex2 => ?_)
      have hw := hw x2 ex2
      refine lv_lstore_n (lv' := [(2, .long x2), (0, .int l0), (1, .int l1), (4, .int l4)]) hx hb (qaa qku 11 rfl) rfl hl (by decide) rfl (fun ls hl => ?_)
      obtain ⟨x3, ex3⟩ : ∃ y : Int32, y = l4 + 1 := ⟨_, rfl⟩
      have hw := hw x3 ex3
      refine lv_iinc (v := x3) (lv' := [(4, .int x3), (2, .long x2), (0, .int l0), (1, .int l1)]) hx hb (qaa qku 12 rfl) hl (k := 3) rfl (by rw [ex3]; rfl) (by decide) rfl (fun ls hl => ?_)
      refine lv_goto (tgt := 5) hx hb (qaa qku 13 rfl) (by decide) ?_
      exact ih _ _ _ l0 l1 x2 x3 hP hD hS (lv_sub hl [2, 3, 1, 0] rfl) hw
set_option maxHeartbeats 4000000 in
set_option maxRecDepth 100000 in
theorem qaot (l : Launch) (dC : Nat → ClassId) (dI : Nat → Nat → Nat) (cyB cyI cyJ cyP : ClassId) (sz : Nat) (p0 p1 : Int32) {Q : Int64 → Prop} (hw : qRM p0 p1 Q) : Met l yX10_power wsX10_power ({ frames := 0, cells := 0, slots := 0, locals := 0 }) (va_Pc [.int p0, .int p1] (cPc (dC, dI) (kT cyB cyI cyJ cyP) [] sz)) (va_Ql (fun (r : Int64) (_ : Unit) => Q r ) (cB (dC, dI) (kT cyB cyI cyJ cyP) (va_A [] sz) (fun u : Unit => ([] : va_W))) (va_A [] sz)) 0 0 (va_A [] sz) := by
  refine Met.ofW (cc := cX10_power) (maxL := 5) (ret := (some .long)) (by decide) rfl ?_
  intro p e s m args below meth c s₁ B hml hv
  obtain ⟨rfl, hsz, hP, hK, hD0, hNw⟩ := hv
  have hx := B.exec
  have hb := B.bytes
  have hr := B.returns
  have hts := atoms_spec (ws := wsX10_power) B.pre
  have hown : s.vm.findClass RX10 = some m.cls := findClass_of_methodNamed B.named
  have hlocks := B.notSynchronized
  subst hsz
  have hD := hD0.self (sz := s.heap.size)
  generalize hAe : va_A [] s.heap.size = A at hD ⊢
  have hA : ∀ q : Nat, s.heap.size ≤ q → A q := fun q h => by rw [← hAe]; exact Or.inr h
  have hS : va_S A s.heap s.heap [] := va_S.rf
  have hP : va_P (dC, dI) vwCl [] s.heap := hP
  have hl := lv_entry ([.int p0, .int p1]) (n := 5) (nbq rfl)
  rw [lg_entry_eq]
  generalize (lg_sl ([.int p0, .int p1]) ++ List.replicate (5 - (lg_sl ([.int p0, .int p1])).length) Slot.unset).toArray = ls at hl ⊢
  have hl : lv_has ls 5 [(0, .int p0), (1, .int p1)] := hl
  have C0 : cfx p s m _ meth c cX10_power (some .long) wsX10_power RX10 5 A (dC, dI) (kT cyB cyI cyJ cyP) := ⟨hx, hb, hr, hts, hown, hlocks, hml, hA, hK, hNw⟩
  clear hAe
  obtain ⟨H, hH⟩ : ∃ H, H = s.heap := ⟨_, rfl⟩
  rw [← hH] at hP ⊢
  have hS : va_S A s.heap H [] := by rw [hH]; exact va_S.rf
  have hS := hS
  refine lv_lconst (v := 1) hx hb (qaa qku 0 rfl) (by decide) ?_
  refine lv_lstore_n (lv' := [(2, .long 1), (0, .int p0), (1, .int p1)]) hx hb (qaa qku 1 rfl) rfl hl (by decide) rfl (fun ls hl => ?_)
  refine lv_iconst (v := 0) hx hb (qaa qku 2 rfl) (by decide) ?_
  refine lv_istore (lv' := [(4, .int 0), (2, .long 1), (0, .int p0), (1, .int p1)]) hx hb (qaa qku 3 rfl) hl (by decide) rfl (fun ls hl => ?_)
  obtain ⟨n9, hw⟩ := hw
  exact qaEM dC dI cyB cyI cyJ cyP Q C0 n9 _ _ _ p0 p1 1 0 hP hD hS (lv_sub hl [2, 3, 1, 0] rfl) hw
set_option maxHeartbeats 4000000 in
set_option maxRecDepth 100000 in
theorem qUJ {p : Program} {l : Launch} {e : Env} {s : State} {m : MethodId} {args : Array Value} {below : List Frame} {meth : Method} {c : Code} {A : Nat → Prop} (dC : Nat → ClassId) (dI : Nat → Nat → Nat) (cyB cyI cyJ cyP : ClassId) (a0 : Nat) (jaK jfS ja1 jcp jbc jbV ja3 jbH ja2 jbO jaq jac jbI jbl jbn jba jaa jbA : Value) (E : String → Int32 → Prop) (Q : Int64 → Int32 → Prop) (C0 : cfx p s m args meth c cX10_few (some .long) wsX10_few RX10 10 A (dC, dI) (kT cyB cyI cyJ cyP) ∧ cfX l s c A) : ∀ (H : Heap) (locs : List Loc) (ls : Array Slot) (jbz l4 : Int32) (l5 : Int64) (l7 : Int64), va_P (dC, dI) vwCl (qnh a0 jaK jfS ja1 jcp jbc jbV ja3 jbH ja2 jbO jaq jac jbI jbl jbn jba jaa jbA jbz) H → va_D A (qnh a0 jaK jfS ja1 jcp jbc jbV ja3 jbH ja2 jbO jaq jac jbI jbl jbn jba jaa jbA jbz) → va_S A s.heap H locs → lv_has ls 10 [(4, .int l4), (5, .long l5), (7, .long l7)] → qAu E Q jbz l4 l5 l7 → W p l e (headSpec wsX10_few ({ frames := 8, cells := 4, slots := 24, locals := 164 })).room s m args below meth c H locs 4 24 (vx_MQ below (va_Ql (fun (r : Int64) (u : Int32) => Q r u) (cB (dC, dI) (kT cyB cyI cyJ cyP) A (fun u : Int32 => ((qnh a0 jaK jfS ja1 jcp jbc jbV ja3 jbH ja2 jbO jaq jac jbI jbl jbn jba jaa jbA u) : va_W))) A) (vx_X (fun _ => True) (fun (en : String) (u : Int32) (t : State) => E en u ∧ cB (dC, dI) (kT cyB cyI cyJ cyP) A (fun u : Int32 => ((qnh a0 jaK jfS ja1 jcp jbc jbV ja3 jbH ja2 jbO jaq jac jbI jbl jbn jba jaa jbA u) : va_W)) u t) A) args s 4 24 A) (F0 m 139 ls []) := by
  obtain ⟨⟨hx, hb, hr, hts, hown, hlocks, hml, hA, hK, hNw⟩, hXs⟩ := id C0
  have hY := hXs.2
  intro H locs ls jbz l4 l5 l7 hP hD hS hl hw
  refine lv_iload hx hb (qaa qrR 3 rfl) (lv_at hl 0 rfl) ?_
  refine lv_if_ne (tgt := 149) hx hb (qaa qrR 4 rfl) (by decide) (fun c19 => ?_) (fun c19 => ?_)
  · have hw := hw.1 c19
    refine lv_lload hx hb (qaa qrR 7 rfl) (lv_at hl 2 rfl) ?_
    exact vx_ret (W.widen (k := 4) (n := 24) (nbq rfl) (nbq rfl) (W.lret (v := l7) hx hb hr (fun t ht hW => ⟨⟨l7, (jbz), rfl, hw, by rw [ht]; exact hP, va_K.moved hW.alike hK, hD⟩, hS.F ht⟩) hS.2.2 (qaa qrR 8 rfl)))
  · have hw := hw.2 c19
    refine lv_lload hx hb (qaa qrR 5 rfl) (lv_at hl 1 rfl) ?_
    refine lv_goto (tgt := 151) hx hb (qaa qrR 6 rfl) (by decide) ?_
    exact vx_ret (W.widen (k := 4) (n := 24) (nbq rfl) (nbq rfl) (W.lret (v := l5) hx hb hr (fun t ht hW => ⟨⟨l5, (jbz), rfl, hw, by rw [ht]; exact hP, va_K.moved hW.alike hK, hD⟩, hS.F ht⟩) hS.2.2 (qaa qrR 8 rfl)))
set_option maxHeartbeats 4000000 in
set_option maxRecDepth 100000 in
theorem qaQ5 {p : Program} {l : Launch} {e : Env} {s : State} {m : MethodId} {args : Array Value} {below : List Frame} {meth : Method} {c : Code} {A : Nat → Prop} (dC : Nat → ClassId) (dI : Nat → Nat → Nat) (cyB cyI cyJ cyP : ClassId) (a0 : Nat) (jaK jfS ja1 jcp jbc jbV ja3 jbH ja2 jbO jaq jac jbI jbl jbn jba jaa jbA : Value) (E : String → Int32 → Prop) (Q : Int64 → Int32 → Prop) (C0 : cfx p s m args meth c cX10_few (some .long) wsX10_few RX10 10 A (dC, dI) (kT cyB cyI cyJ cyP) ∧ cfX l s c A) : ∀ (n : Nat) (H : Heap) (locs : List Loc) (ls : Array Slot) (jbz l4 : Int32) (l5 : Int64) (l7 : Int64) (l9 : Int32), va_P (dC, dI) vwCl (qnh a0 jaK jfS ja1 jcp jbc jbV ja3 jbH ja2 jbO jaq jac jbI jbl jbn jba jaa jbA jbz) H → va_D A (qnh a0 jaK jfS ja1 jcp jbc jbV ja3 jbH ja2 jbO jaq jac jbI jbl jbn jba jaa jbA jbz) → va_S A s.heap H locs → lv_has ls 10 [(4, .int l4), (5, .long l5), (7, .long l7), (9, .int l9)] → qNS E Q n jbz l4 l5 l7 l9 → W p l e (headSpec wsX10_few ({ frames := 8, cells := 4, slots := 24, locals := 164 })).room s m args below meth c H locs 4 24 (vx_MQ below (va_Ql (fun (r : Int64) (u : Int32) => Q r u) (cB (dC, dI) (kT cyB cyI cyJ cyP) A (fun u : Int32 => ((qnh a0 jaK jfS ja1 jcp jbc jbV ja3 jbH ja2 jbO jaq jac jbI jbl jbn jba jaa jbA u) : va_W))) A) (vx_X (fun _ => True) (fun (en : String) (u : Int32) (t : State) => E en u ∧ cB (dC, dI) (kT cyB cyI cyJ cyP) A (fun u : Int32 => ((qnh a0 jaK jfS ja1 jcp jbc jbV ja3 jbH ja2 jbO jaq jac jbI jbl jbn jba jaa jbA u) : va_W)) u t) A) args s 4 24 A) (F0 m 96 ls []) := by
  obtain ⟨⟨hx, hb, hr, hts, hown, hlocks, hml, hA, hK, hNw⟩, hXs⟩ := id C0
  have hY := hXs.2
  intro n
  induction n with
  | zero => intro H locs ls jbz l4 l5 l7 l9 hP hD hS hl hw; exact False.elim hw
  | succ n ih =>
    intro H locs ls jbz l4 l5 l7 l9 hP hD hS hl hw
    refine lv_iload hx hb (qaa qmS 10 rfl) (lv_at hl 3 rfl) ?_
    refine lv_bipush (v := 48) hx hb (qaa qmS 11 rfl) (by decide) ?_
    refine lv_icmp_ge (tgt := 139) hx hb (qaa qmS 12 rfl) (by decide) (fun c13 => ?_) (fun c13 => ?_)
    · have hw := hw.1 c13
      exact qUJ dC dI cyB cyI cyJ cyP a0 jaK jfS ja1 jcp jbc jbV ja3 jbH ja2 jbO jaq jac jbI jbl jbn jba jaa jbA E Q C0 _ _ _ jbz l4 l5 l7 hP hD hS (lv_sub hl [0, 1, 2] rfl) hw
    · have hw := hw.2 c13
      refine lv_lload hx hb (qaa qmS 13 rfl) (lv_at hl 1 rfl) ?_
      refine lv_lconst (v := 1) hx hb (qaa qmS 14 rfl) (by decide) ?_
      refine lv_land hx hb (qaa qmS 15 rfl) ?_
      refine lv_lconst (v := 0) hx hb (qaa qkd 0 rfl) (by decide) ?_
      refine W.lcmp hx hb (qaa qkd 1 rfl) ?_
      refine lv_if_ne (tgt := 139) hx hb (qaa qkd 2 rfl) (by decide) (fun c14 => ?_) (fun c14 => ?_)
      · have hw := hw.1 c14
        exact qUJ dC dI cyB cyI cyJ cyP a0 jaK jfS ja1 jcp jbc jbV ja3 jbH ja2 jbO jaq jac jbI jbl jbn jba jaa jbA E Q C0 _ _ _ jbz l4 l5 l7 hP hD hS (lv_sub hl [0, 1, 2] rfl) hw
      · have hw := hw.2 c14
        refine lv_lload hx hb (qaa qkd 3 rfl) (lv_at hl 2 rfl) ?_
        refine lv_lconst (v := 1) hx hb (qaa qkd 4 rfl) (by decide) ?_
        refine lv_land hx hb (qaa qkd 5 rfl) ?_
        refine lv_lconst (v := 0) hx hb (qaa qkd 6 rfl) (by decide) ?_
        refine W.lcmp hx hb (qaa qkd 7 rfl) ?_
        refine lv_if_ne (tgt := 139) hx hb (qaa qkd 8 rfl) (by decide) (fun c15 => ?_) (fun c15 => ?_)
        · have hw := hw.1 c15
          exact qUJ dC dI cyB cyI cyJ cyP a0 jaK jfS ja1 jcp jbc jbV ja3 jbH ja2 jbO jaq jac jbI jbl jbn jba jaa jbA E Q C0 _ _ _ jbz l4 l5 l7 hP hD hS (lv_sub hl [0, 1, 2] rfl) hw
        · have hw := hw.2 c15
          refine lv_lload hx hb (qaa qkd 9 rfl) (lv_at hl 1 rfl) ?_
          refine lv_iconst (v := 1) hx hb (qaa qkd 10 rfl) (by decide) ?_
          refine lv_lshr (v := l5 >>> ((1 : Int32).toInt64 &&& 63)) hx hb (qaa qkd 11 rfl) rfl ?_
          refine lv_topl (fun x16 ex16 => ?_)
          have hw := hw x16 ex16
          refine lv_lstore (lv' := [(5, .long x16), (4, .int l4), (7, .long l7), (9, .int l9)]) hx hb (qaa qkd 12 rfl) hl (by decide) rfl (fun ls hl => ?_)
          refine lv_lload hx hb (qaa qkd 13 rfl) (lv_at hl 2 rfl) ?_
          refine lv_iconst (v := 1) hx hb (qaa qkd 14 rfl) (by decide) ?_
          refine lv_lshr (v := l7 >>> ((1 : Int32).toInt64 &&& 63)) hx hb (qaa qkd 15 rfl) rfl ?_
          refine lv_topl (fun x17 ex17 => ?_)
          have hw := hw x17 ex17
          refine lv_lstore (lv' := [(7, .long x17), (5, .long x16), (4, .int l4), (9, .int l9)]) hx hb (qaa qrR 0 rfl) hl (by decide) rfl (fun ls hl => ?_)
          obtain ⟨x18, ex18⟩ : ∃ y : Int32, y = l9 + 1 := ⟨_, rfl⟩
          have hw := hw x18 ex18
          refine lv_iinc (v := x18) (lv' := [(9, .int x18), (7, .long x17), (5, .long x16), (4, .int l4)]) hx hb (qaa qrR 1 rfl) hl (k := 3) rfl (by rw [ex18]; rfl) (by decide) rfl (fun ls hl => ?_)
          refine lv_goto (tgt := 96) hx hb (qaa qrR 2 rfl) (by decide) ?_
          exact ih _ _ _ jbz l4 x16 x17 x18 hP hD hS (lv_sub hl [3, 2, 1, 0] rfl) hw
set_option maxHeartbeats 4000000 in
set_option maxRecDepth 100000 in
theorem qaeo {p : Program} {l : Launch} {e : Env} {s : State} {m : MethodId} {args : Array Value} {below : List Frame} {meth : Method} {c : Code} {A : Nat → Prop} (dC : Nat → ClassId) (dI : Nat → Nat → Nat) (cyB cyI cyJ cyP : ClassId) (a0 : Nat) (jaK jfS ja1 jcp jbc jbV ja3 jbH ja2 jbO jaq jac jbI jbl jbn jba jaa jbA : Value) (E : String → Int32 → Prop) (Q : Int64 → Int32 → Prop) (C0 : cfx p s m args meth c cX10_few (some .long) wsX10_few RX10 10 A (dC, dI) (kT cyB cyI cyJ cyP) ∧ cfX l s c A) : ∀ (H : Heap) (locs : List Loc) (ls : Array Slot) (jbz l1 l4 : Int32) (l5 : Int64), va_P (dC, dI) vwCl (qnh a0 jaK jfS ja1 jcp jbc jbV ja3 jbH ja2 jbO jaq jac jbI jbl jbn jba jaa jbA jbz) H → va_D A (qnh a0 jaK jfS ja1 jcp jbc jbV ja3 jbH ja2 jbO jaq jac jbI jbl jbn jba jaa jbA jbz) → va_S A s.heap H locs → lv_has ls 10 [(1, .int l1), (4, .int l4), (5, .long l5)] → qOo E Q jbz l1 l4 l5 → W p l e (headSpec wsX10_few ({ frames := 8, cells := 4, slots := 24, locals := 164 })).room s m args below meth c H locs 4 24 (vx_MQ below (va_Ql (fun (r : Int64) (u : Int32) => Q r u) (cB (dC, dI) (kT cyB cyI cyJ cyP) A (fun u : Int32 => ((qnh a0 jaK jfS ja1 jcp jbc jbV ja3 jbH ja2 jbO jaq jac jbI jbl jbn jba jaa jbA u) : va_W))) A) (vx_X (fun _ => True) (fun (en : String) (u : Int32) (t : State) => E en u ∧ cB (dC, dI) (kT cyB cyI cyJ cyP) A (fun u : Int32 => ((qnh a0 jaK jfS ja1 jcp jbc jbV ja3 jbH ja2 jbO jaq jac jbI jbl jbn jba jaa jbA u) : va_W)) u t) A) args s 4 24 A) (F0 m 86 ls []) := by
  obtain ⟨⟨hx, hb, hr, hts, hown, hlocks, hml, hA, hK, hNw⟩, hXs⟩ := id C0
  have hY := hXs.2
  intro H locs ls jbz l1 l4 l5 hP hD hS hl hw
  refine lv_lconst (v := 1) hx hb (qaa qmS 2 rfl) (by decide) ?_
  refine lv_iconst (v := 4) hx hb (qaa qmS 3 rfl) (by decide) ?_
  refine lv_iload_n hx hb (qaa qmS 4 rfl) rfl (lv_at hl 0 rfl) ?_
  refine lv_imul hx hb (qaa qmS 5 rfl) ?_
  refine lv_lshl (v := (1 : Int64) <<< ((4 * l1).toInt64 &&& 63)) hx hb (qaa qmS 6 rfl) rfl ?_
  refine lv_topl (fun x12 ex12 => ?_)
  have hw := hw x12 ex12
  refine lv_lstore (lv' := [(7, .long x12), (1, .int l1), (4, .int l4), (5, .long l5)]) hx hb (qaa qmS 7 rfl) hl (by decide) rfl (fun ls hl => ?_)
  refine lv_iconst (v := 0) hx hb (qaa qmS 8 rfl) (by decide) ?_
  refine lv_istore (lv' := [(9, .int 0), (7, .long x12), (1, .int l1), (4, .int l4), (5, .long l5)]) hx hb (qaa qmS 9 rfl) hl (by decide) rfl (fun ls hl => ?_)
  obtain ⟨n9, hw⟩ := hw
  exact qaQ5 dC dI cyB cyI cyJ cyP a0 jaK jfS ja1 jcp jbc jbV ja3 jbH ja2 jbO jaq jac jbI jbl jbn jba jaa jbA E Q C0 n9 _ _ _ jbz l4 l5 x12 0 hP hD hS (lv_sub hl [3, 4, 1, 0] rfl) hw
set_option maxHeartbeats 4000000 in
set_option maxRecDepth 100000 in
theorem qaMt {p : Program} {l : Launch} {e : Env} {s : State} {m : MethodId} {args : Array Value} {below : List Frame} {meth : Method} {c : Code} {A : Nat → Prop} (dC : Nat → ClassId) (dI : Nat → Nat → Nat) (cyB cyI cyJ cyP : ClassId) (a0 : Nat) (jaK jfS ja1 jcp jbc jbV ja3 jbH ja2 jbO jaq jac jbI jbl jbn jba jaa jbA : Value) (E : String → Int32 → Prop) (Q : Int64 → Int32 → Prop) (C0 : cfx p s m args meth c cX10_few (some .long) wsX10_few RX10 10 A (dC, dI) (kT cyB cyI cyJ cyP) ∧ cfX l s c A) : ∀ (n : Nat) (H : Heap) (locs : List Loc) (ls : Array Slot) (jbz l1 l2 l3 l4 : Int32) (l5 : Int64) (l7 : Int32), va_P (dC, dI) vwCl (qnh a0 jaK jfS ja1 jcp jbc jbV ja3 jbH ja2 jbO jaq jac jbI jbl jbn jba jaa jbA jbz) H → va_D A (qnh a0 jaK jfS ja1 jcp jbc jbV ja3 jbH ja2 jbO jaq jac jbI jbl jbn jba jaa jbA jbz) → va_S A s.heap H locs → lv_has ls 10 [(1, .int l1), (2, .int l2), (3, .int l3), (4, .int l4), (5, .long l5), (7, .int l7)] → qN6 E Q n jbz l1 l2 l3 l4 l5 l7 → W p l e (headSpec wsX10_few ({ frames := 8, cells := 4, slots := 24, locals := 164 })).room s m args below meth c H locs 4 24 (vx_MQ below (va_Ql (fun (r : Int64) (u : Int32) => Q r u) (cB (dC, dI) (kT cyB cyI cyJ cyP) A (fun u : Int32 => ((qnh a0 jaK jfS ja1 jcp jbc jbV ja3 jbH ja2 jbO jaq jac jbI jbl jbn jba jaa jbA u) : va_W))) A) (vx_X (fun _ => True) (fun (en : String) (u : Int32) (t : State) => E en u ∧ cB (dC, dI) (kT cyB cyI cyJ cyP) A (fun u : Int32 => ((qnh a0 jaK jfS ja1 jcp jbc jbV ja3 jbH ja2 jbO jaq jac jbI jbl jbn jba jaa jbA u) : va_W)) u t) A) args s 4 24 A) (F0 m 38 ls []) := by
  obtain ⟨⟨hx, hb, hr, hts, hown, hlocks, hml, hA, hK, hNw⟩, hXs⟩ := id C0
  have hY := hXs.2
  intro n
  induction n with
  | zero => intro H locs ls jbz l1 l2 l3 l4 l5 l7 hP hD hS hl hw; exact False.elim hw
  | succ n ih =>
    intro H locs ls jbz l1 l2 l3 l4 l5 l7 hP hD hS hl hw
    refine lv_iload hx hb (qaa qln 8 rfl) (lv_at hl 5 rfl) ?_
    refine lv_iload_n hx hb (qaa qln 9 rfl) rfl (lv_at hl 1 rfl) ?_
    refine lv_icmp_gt (tgt := 86) hx hb (qaa qln 10 rfl) (by decide) (fun c5 => ?_) (fun c5 => ?_)
    · have hw := hw.1 c5
      exact qaeo dC dI cyB cyI cyJ cyP a0 jaK jfS ja1 jcp jbc jbV ja3 jbH ja2 jbO jaq jac jbI jbl jbn jba jaa jbA E Q C0 _ _ _ jbz l1 l4 l5 hP hD hS (lv_sub hl [0, 3, 4] rfl) hw
    · have hw := hw.2 c5
      refine lv_iload hx hb (qaa qln 11 rfl) (lv_at hl 5 rfl) ?_
      refine lv_iload_n hx hb (qaa qln 12 rfl) rfl (lv_at hl 0 rfl) ?_
      refine lv_icmp_gt (tgt := 86) hx hb (qaa qln 13 rfl) (by decide) (fun c6 => ?_) (fun c6 => ?_)
      · have hw := hw.1 c6
        exact qaeo dC dI cyB cyI cyJ cyP a0 jaK jfS ja1 jcp jbc jbV ja3 jbH ja2 jbO jaq jac jbI jbl jbn jba jaa jbA E Q C0 _ _ _ jbz l1 l4 l5 hP hD hS (lv_sub hl [0, 3, 4] rfl) hw
      · have hw := hw.2 c6
        refine lv_lload hx hb (qaa qln 14 rfl) (lv_at hl 4 rfl) ?_
        refine lv_iload_n hx hb (qaa qln 15 rfl) rfl (lv_at hl 0 rfl) ?_
        refine lv_iload hx hb (qaa qlI 0 rfl) (lv_at hl 5 rfl) ?_
        obtain ⟨hCc, hPc, hDc, hFc⟩ := qac (ws' := []) hP hD hS hA [] (by decide +kernel) rfl
        refine va_calll (va_runS (As := [.int l1, .int l7]) (rest := [.long l5]) ⟨hx, hb, hml, hown, hts⟩ (qaIG l dC dI cyB cyI cyJ cyP H.size l1 l7 hw) (va_cwS 2 hts gX10_few_X10_choices rfl rfl rfl (by decide +kernel) ⟨nbq rfl, nbq rfl⟩) ⟨qab, qae hPc hK hDc hNw⟩ rfl rfl hl.1 rfl (lv_room (nbq rfl)) (qaa qlI 1 rfl) ⟨nbq rfl, nbq rfl⟩) hS (fun q _ h => hFc q h) hFc (fun r7 u t H1 locs ht hvm hw hB hz1 hk1 hS => ?_)
        obtain ⟨hP1, hK1, hD1⟩ := hB
        rw [ht] at hP1
        obtain ⟨hP, hD⟩ := qah (wr := (qnh a0 jaK jfS ja1 jcp jbc jbV ja3 jbH ja2 jbO jaq jac jbI jbl jbn jba jaa jbA jbz)) (w1 := []) (wn := (qnh a0 jaK jfS ja1 jcp jbc jbV ja3 jbH ja2 jbO jaq jac jbI jbl jbn jba jaa jbA jbz)) hP hD [] [0] hCc rfl (by decide +kernel) (by decide +kernel) rfl hk1 hFc hP1 hD1
        generalize H1 = H at hP hS ⊢
        refine lv_iload_n hx hb (qaa qlI 2 rfl) rfl (lv_at hl 2 rfl) ?_
        refine lv_iload hx hb (qaa qlI 3 rfl) (lv_at hl 5 rfl) ?_
        obtain ⟨hCc, hPc, hDc, hFc⟩ := qac (ws' := []) hP hD hS hA [] (by decide +kernel) rfl
        refine va_calll (va_runS (As := [.int l3, .int l7]) (rest := [.long r7, .long l5]) ⟨hx, hb, hml, hown, hts⟩ (qaot l dC dI cyB cyI cyJ cyP H.size l3 l7 hw) (va_cwS 2 hts gX10_few_X10_power rfl rfl rfl (by decide +kernel) ⟨nbq rfl, nbq rfl⟩) ⟨qab, qae hPc hK hDc hNw⟩ rfl rfl hl.1 rfl (lv_room (nbq rfl)) (qaa qlI 4 rfl) ⟨nbq rfl, nbq rfl⟩) hS (fun q _ h => hFc q h) hFc (fun r8 u t H1 locs ht hvm hw hB hz1 hk1 hS => ?_)
        obtain ⟨hP1, hK1, hD1⟩ := hB
        rw [ht] at hP1
        obtain ⟨hP, hD⟩ := qah (wr := (qnh a0 jaK jfS ja1 jcp jbc jbV ja3 jbH ja2 jbO jaq jac jbI jbl jbn jba jaa jbA jbz)) (w1 := []) (wn := (qnh a0 jaK jfS ja1 jcp jbc jbV ja3 jbH ja2 jbO jaq jac jbI jbl jbn jba jaa jbA jbz)) hP hD [] [0] hCc rfl (by decide +kernel) (by decide +kernel) rfl hk1 hFc hP1 hD1
        generalize H1 = H at hP hS ⊢
        refine lv_lmul hx hb (qaa qlI 5 rfl) ?_
        refine lv_bipush (v := 16) hx hb (qaa qlI 6 rfl) (by decide) ?_
        refine lv_iload_n hx hb (qaa qlI 7 rfl) rfl (lv_at hl 2 rfl) ?_
        refine lv_isub hx hb (qaa qlI 8 rfl) ?_
        refine lv_iload_n hx hb (qaa qlI 9 rfl) rfl (lv_at hl 0 rfl) ?_
        refine lv_iload hx hb (qaa qlI 10 rfl) (lv_at hl 5 rfl) ?_
        refine lv_isub hx hb (qaa qlI 11 rfl) ?_
        obtain ⟨hCc, hPc, hDc, hFc⟩ := qac (ws' := []) hP hD hS hA [] (by decide +kernel) rfl
        refine va_calll (va_runS (As := [.int (16 - l3), .int (l1 - l7)]) (rest := [.long (r7 * r8), .long l5]) ⟨hx, hb, hml, hown, hts⟩ (qaot l dC dI cyB cyI cyJ cyP H.size (16 - l3) (l1 - l7) hw) (va_cwS 2 hts gX10_few_X10_power rfl rfl rfl (by decide +kernel) ⟨nbq rfl, nbq rfl⟩) ⟨qab, qae hPc hK hDc hNw⟩ rfl rfl hl.1 rfl (lv_room (nbq rfl)) (qaa qlI 12 rfl) ⟨nbq rfl, nbq rfl⟩) hS (fun q _ h => hFc q h) hFc (fun r9 u t H1 locs ht hvm hw hB hz1 hk1 hS => ?_)
        obtain ⟨hP1, hK1, hD1⟩ := hB
        rw [ht] at hP1
        obtain ⟨hP, hD⟩ := qah (wr := (qnh a0 jaK jfS ja1 jcp jbc jbV ja3 jbH ja2 jbO jaq jac jbI jbl jbn jba jaa jbA jbz)) (w1 := []) (wn := (qnh a0 jaK jfS ja1 jcp jbc jbV ja3 jbH ja2 jbO jaq jac jbI jbl jbn jba jaa jbA jbz)) hP hD [] [0] hCc rfl (by decide +kernel) (by decide +kernel) rfl hk1 hFc hP1 hD1
        generalize H1 = H at hP hS ⊢
        refine lv_lmul hx hb (qaa qlI 13 rfl) ?_
        refine lv_ladd hx hb (qaa qlI 14 rfl) ?_
        refine lv_topl (fun x10 ex10 => ?_)
        have hw := hw x10 ex10
        refine lv_lstore (lv' := [(5, .long x10), (1, .int l1), (2, .int l2), (3, .int l3), (4, .int l4), (7, .int l7)]) hx hb (qaa qlI 15 rfl) hl (by decide) rfl (fun ls hl => ?_)
        obtain ⟨x11, ex11⟩ : ∃ y : Int32, y = l7 + 1 := ⟨_, rfl⟩
        have hw := hw x11 ex11
        refine lv_iinc (v := x11) (lv' := [(7, .int x11), (5, .long x10), (1, .int l1), (2, .int l2), (3, .int l3), (4, .int l4)]) hx hb (qaa qmS 0 rfl) hl (k := 5) rfl (by rw [ex11]; rfl) (by decide) rfl (fun ls hl => ?_)
        refine lv_goto (tgt := 38) hx hb (qaa qmS 1 rfl) (by decide) ?_
        exact ih _ _ _ jbz l1 l2 l3 l4 x10 x11 hP hD hS (lv_sub hl [2, 3, 4, 5, 1, 0] rfl) hw
set_option maxHeartbeats 4000000 in
set_option maxRecDepth 100000 in
theorem qa1v (l : Launch) (dC : Nat → ClassId) (dI : Nat → Nat → Nat) (cyB cyI cyJ cyP : ClassId) (a0 sz : Nat) (jaK jfS ja1 jcp jbc jbV ja3 jbH ja2 jbO jaq jac jbI jbl jbn jba jaa jbA : Value) (jbz p1 p2 p3 p4 : Int32) {E : String → Int32 → Prop} {Q : Int64 → Int32 → Prop} (hw : qaL5 jbz p1 p2 p3 p4 E Q) : vx_Met l yX10_few wsX10_few ({ frames := 8, cells := 4, slots := 24, locals := 164 }) (va_Pc [.ref a0, .int p1, .int p2, .int p3, .int p4] (cPx l (dC, dI) (kT cyB cyI cyJ cyP) (qnh a0 jaK jfS ja1 jcp jbc jbV ja3 jbH ja2 jbO jaq jac jbI jbl jbn jba jaa jbA jbz) sz)) (va_Ql (fun (r : Int64) (u : Int32) => Q r u) (cB (dC, dI) (kT cyB cyI cyJ cyP) (va_A (qnh a0 jaK jfS ja1 jcp jbc jbV ja3 jbH ja2 jbO jaq jac jbI jbl jbn jba jaa jbA jbz) sz) (fun u : Int32 => ((qnh a0 jaK jfS ja1 jcp jbc jbV ja3 jbH ja2 jbO jaq jac jbI jbl jbn jba jaa jbA u) : va_W))) (va_A (qnh a0 jaK jfS ja1 jcp jbc jbV ja3 jbH ja2 jbO jaq jac jbI jbl jbn jba jaa jbA jbz) sz)) (vx_X (fun _ => True) (fun (en : String) (u : Int32) (t : State) => E en u ∧ cB (dC, dI) (kT cyB cyI cyJ cyP) (va_A (qnh a0 jaK jfS ja1 jcp jbc jbV ja3 jbH ja2 jbO jaq jac jbI jbl jbn jba jaa jbA jbz) sz) (fun u : Int32 => ((qnh a0 jaK jfS ja1 jcp jbc jbV ja3 jbH ja2 jbO jaq jac jbI jbl jbn jba jaa jbA u) : va_W)) u t) (va_A (qnh a0 jaK jfS ja1 jcp jbc jbV ja3 jbH ja2 jbO jaq jac jbI jbl jbn jba jaa jbA jbz) sz)) 4 24 (va_A (qnh a0 jaK jfS ja1 jcp jbc jbV ja3 jbH ja2 jbO jaq jac jbI jbl jbn jba jaa jbA jbz) sz) := by
  refine vx_ofW (cc := cX10_few) (maxL := 10) (ret := (some .long)) (by decide) rfl ?_
  intro p e s m args below meth c s₁ B hml hnt hv
  obtain ⟨rfl, hsz, hP, hK, hD0, hNw, hXl, hXu, hXn, hXt⟩ := hv
  have hx := B.exec
  have hb := B.bytes
  have hr := B.returns
  have hts := atoms_spec (ws := wsX10_few) B.pre
  have hown : s.vm.findClass RX10 = some m.cls := findClass_of_methodNamed B.named
  have hlocks := B.notSynchronized
  subst hsz
  have hD := hD0.self (sz := s.heap.size)
  generalize hAe : va_A (qnh a0 jaK jfS ja1 jcp jbc jbV ja3 jbH ja2 jbO jaq jac jbI jbl jbn jba jaa jbA jbz) s.heap.size = A at hD hXu hXn ⊢
  have hA : ∀ q : Nat, s.heap.size ≤ q → A q := fun q h => by rw [← hAe]; exact Or.inr h
  have hS : va_S A s.heap s.heap [] := va_S.rf
  have hP : va_P (dC, dI) vwCl (qnh a0 jaK jfS ja1 jcp jbc jbV ja3 jbH ja2 jbO jaq jac jbI jbl jbn jba jaa jbA jbz) s.heap := hP
  have hl := lv_entry ([.ref a0, .int p1, .int p2, .int p3, .int p4]) (n := 10) (nbq rfl)
  rw [lg_entry_eq]
  generalize (lg_sl ([.ref a0, .int p1, .int p2, .int p3, .int p4]) ++ List.replicate (10 - (lg_sl ([.ref a0, .int p1, .int p2, .int p3, .int p4])).length) Slot.unset).toArray = ls at hl ⊢
  have hl : lv_has ls 10 [(0, .ref a0), (1, .int p1), (2, .int p2), (3, .int p3), (4, .int p4)] := hl
  have hY : cfY l s A := ⟨hXl, hXu, hXn, hXt⟩
  have hXs : cfX l s c A := ⟨hnt, hY⟩
  have C0 : cfx p s m _ meth c cX10_few (some .long) wsX10_few RX10 10 A (dC, dI) (kT cyB cyI cyJ cyP) ∧ cfX l s c A := ⟨⟨hx, hb, hr, hts, hown, hlocks, hml, hA, hK, hNw⟩, hXs⟩
  clear hAe
  obtain ⟨H, hH⟩ : ∃ H, H = s.heap := ⟨_, rfl⟩
  rw [← hH] at hP ⊢
  have hS : va_S A s.heap H [] := by rw [hH]; exact va_S.rf
  have hS := hS
  refine lv_aload_n hx hb (qaa qom 0 rfl) rfl (lv_at hl 0 rfl) ?_
  refine lv_iload_n hx hb (qaa qom 1 rfl) rfl (lv_at hl 1 rfl) ?_
  refine lv_iconst (v := 0) hx hb (qaa qom 2 rfl) (by decide) ?_
  refine lv_bipush (v := 12) hx hb (qaa qom 3 rfl) (by decide) ?_
  obtain ⟨hCc, hPc, hDc, hFc⟩ := qac (ws' := (qnh a0 jaK jfS ja1 jcp jbc jbV ja3 jbH ja2 jbO jaq jac jbI jbl jbn jba jaa jbA jbz)) hP hD hS hA [0] (by decide +kernel) rfl
  refine vx_callv (vx_runV (As := [.int p1, .int 0, .int 12]) (rest := []) ⟨hx, hb, hml, hown, hts⟩ (qaV l dC dI cyB cyI cyJ cyP a0 H.size (jaK) (jfS) (ja1) (jcp) (jbc) (jbV) (ja3) (jbH) (ja2) (jbO) (jaq) (jac) (jbI) (jbl) (jbn) (jba) (jaa) (jbA) jbz p1 0 12 hw) (cwV 3 hts gX10_few_X10_needWithin rfl rfl rfl (by decide +kernel) ⟨nbq rfl, nbq rfl⟩) ⟨qav, va_recv (q := (RX10, TX10, 19)) hK hPc (ci := 10) (q0 := 0) rfl rfl, qbl hPc hK hDc hNw hY hS hFc⟩ rfl rfl hl.1 rfl (lv_room (nbq rfl)) (qaa qom 4 rfl) ⟨nbq rfl, nbq rfl⟩) hS (fun q _ h => hFc q h) hFc (fun q _ h => hFc q h) (fun en ce q9 u t H1 locs ht hvm hpx hB hz1 hk1 hS hc9 hv9 hcl9 => ?_) (fun u t H1 locs ht hvm hw hB hz1 hk1 hS => ?_)
  · obtain ⟨x1, rfl⟩ : ∃ z, z = u := ⟨_, rfl⟩
    obtain ⟨hw, hP1, hK1, hD1⟩ := hB
    rw [ht] at hP1
    obtain ⟨hP, hD⟩ := qah (wr := []) (w1 := (qnh a0 jaK jfS ja1 jcp jbc jbV ja3 jbH ja2 jbO jaq jac jbI jbl jbn jba jaa jbA x1)) (wn := (qnh a0 jaK jfS ja1 jcp jbc jbV ja3 jbH ja2 jbO jaq jac jbI jbl jbn jba jaa jbA x1)) hP hD [0] [] hCc rfl (by decide +kernel) (by decide +kernel) rfl hk1 hFc hP1 hD1
    generalize H1 = H at hP hS hc9 ⊢
    exact vx_out (fun x hx9 => (hXs.1 x hx9).elim) hlocks hc9 hv9 hcl9 (fun t2 ht2 hal2 => ⟨(x1), trivial, ⟨hw, by rw [ht2]; exact hP, va_K.moved hal2 hK, hD⟩, hS.F ht2⟩) hS.2.2 (nbq rfl) (nbq rfl)
  obtain ⟨x1, rfl⟩ : ∃ z, z = u := ⟨_, rfl⟩
  obtain ⟨hP1, hK1, hD1⟩ := hB
  rw [ht] at hP1
  obtain ⟨hP, hD⟩ := qah (wr := []) (w1 := (qnh a0 jaK jfS ja1 jcp jbc jbV ja3 jbH ja2 jbO jaq jac jbI jbl jbn jba jaa jbA x1)) (wn := (qnh a0 jaK jfS ja1 jcp jbc jbV ja3 jbH ja2 jbO jaq jac jbI jbl jbn jba jaa jbA x1)) hP hD [0] [] hCc rfl (by decide +kernel) (by decide +kernel) rfl hk1 hFc hP1 hD1
  generalize H1 = H at hP hS ⊢
  refine lv_aload_n hx hb (qaa qom 5 rfl) rfl (lv_at hl 0 rfl) ?_
  refine lv_iload_n hx hb (qaa qom 6 rfl) rfl (lv_at hl 2 rfl) ?_
  refine lv_iconst (v := 0) hx hb (qaa qom 7 rfl) (by decide) ?_
  refine lv_bipush (v := 12) hx hb (qaa qom 8 rfl) (by decide) ?_
  obtain ⟨hCc, hPc, hDc, hFc⟩ := qac (ws' := (qnh a0 jaK jfS ja1 jcp jbc jbV ja3 jbH ja2 jbO jaq jac jbI jbl jbn jba jaa jbA x1)) hP hD hS hA [0] (by decide +kernel) rfl
  refine vx_callv (vx_runV (As := [.int p2, .int 0, .int 12]) (rest := []) ⟨hx, hb, hml, hown, hts⟩ (qaV l dC dI cyB cyI cyJ cyP a0 H.size (jaK) (jfS) (ja1) (jcp) (jbc) (jbV) (ja3) (jbH) (ja2) (jbO) (jaq) (jac) (jbI) (jbl) (jbn) (jba) (jaa) (jbA) x1 p2 0 12 hw) (cwV 3 hts gX10_few_X10_needWithin rfl rfl rfl (by decide +kernel) ⟨nbq rfl, nbq rfl⟩) ⟨qav, va_recv (q := (RX10, TX10, 19)) hK hPc (ci := 10) (q0 := 0) rfl rfl, qbl hPc hK hDc hNw hY hS hFc⟩ rfl rfl hl.1 rfl (lv_room (nbq rfl)) (qaa qom 9 rfl) ⟨nbq rfl, nbq rfl⟩) hS (fun q _ h => hFc q h) hFc (fun q _ h => hFc q h) (fun en ce q9 u t H1 locs ht hvm hpx hB hz1 hk1 hS hc9 hv9 hcl9 => ?_) (fun u t H1 locs ht hvm hw hB hz1 hk1 hS => ?_)
  · obtain ⟨x2, rfl⟩ : ∃ z, z = u := ⟨_, rfl⟩
    obtain ⟨hw, hP1, hK1, hD1⟩ := hB
    rw [ht] at hP1
    obtain ⟨hP, hD⟩ := qah (wr := []) (w1 := (qnh a0 jaK jfS ja1 jcp jbc jbV ja3 jbH ja2 jbO jaq jac jbI jbl jbn jba jaa jbA x2)) (wn := (qnh a0 jaK jfS ja1 jcp jbc jbV ja3 jbH ja2 jbO jaq jac jbI jbl jbn jba jaa jbA x2)) hP hD [0] [] hCc rfl (by decide +kernel) (by decide +kernel) rfl hk1 hFc hP1 hD1
    generalize H1 = H at hP hS hc9 ⊢
    exact vx_out (fun x hx9 => (hXs.1 x hx9).elim) hlocks hc9 hv9 hcl9 (fun t2 ht2 hal2 => ⟨(x2), trivial, ⟨hw, by rw [ht2]; exact hP, va_K.moved hal2 hK, hD⟩, hS.F ht2⟩) hS.2.2 (nbq rfl) (nbq rfl)
  obtain ⟨x2, rfl⟩ : ∃ z, z = u := ⟨_, rfl⟩
  obtain ⟨hP1, hK1, hD1⟩ := hB
  rw [ht] at hP1
  obtain ⟨hP, hD⟩ := qah (wr := []) (w1 := (qnh a0 jaK jfS ja1 jcp jbc jbV ja3 jbH ja2 jbO jaq jac jbI jbl jbn jba jaa jbA x2)) (wn := (qnh a0 jaK jfS ja1 jcp jbc jbV ja3 jbH ja2 jbO jaq jac jbI jbl jbn jba jaa jbA x2)) hP hD [0] [] hCc rfl (by decide +kernel) (by decide +kernel) rfl hk1 hFc hP1 hD1
  generalize H1 = H at hP hS ⊢
  refine lv_aload_n hx hb (qaa qom 10 rfl) rfl (lv_at hl 0 rfl) ?_
  refine lv_iload_n hx hb (qaa qom 11 rfl) rfl (lv_at hl 3 rfl) ?_
  refine lv_iconst (v := 0) hx hb (qaa qom 12 rfl) (by decide) ?_
  refine lv_bipush (v := 16) hx hb (qaa qom 13 rfl) (by decide) ?_
  obtain ⟨hCc, hPc, hDc, hFc⟩ := qac (ws' := (qnh a0 jaK jfS ja1 jcp jbc jbV ja3 jbH ja2 jbO jaq jac jbI jbl jbn jba jaa jbA x2)) hP hD hS hA [0] (by decide +kernel) rfl
  refine vx_callv (vx_runV (As := [.int p3, .int 0, .int 16]) (rest := []) ⟨hx, hb, hml, hown, hts⟩ (qaV l dC dI cyB cyI cyJ cyP a0 H.size (jaK) (jfS) (ja1) (jcp) (jbc) (jbV) (ja3) (jbH) (ja2) (jbO) (jaq) (jac) (jbI) (jbl) (jbn) (jba) (jaa) (jbA) x2 p3 0 16 hw) (cwV 3 hts gX10_few_X10_needWithin rfl rfl rfl (by decide +kernel) ⟨nbq rfl, nbq rfl⟩) ⟨qav, va_recv (q := (RX10, TX10, 19)) hK hPc (ci := 10) (q0 := 0) rfl rfl, qbl hPc hK hDc hNw hY hS hFc⟩ rfl rfl hl.1 rfl (lv_room (nbq rfl)) (qaa qom 14 rfl) ⟨nbq rfl, nbq rfl⟩) hS (fun q _ h => hFc q h) hFc (fun q _ h => hFc q h) (fun en ce q9 u t H1 locs ht hvm hpx hB hz1 hk1 hS hc9 hv9 hcl9 => ?_) (fun u t H1 locs ht hvm hw hB hz1 hk1 hS => ?_)
  · obtain ⟨x3, rfl⟩ : ∃ z, z = u := ⟨_, rfl⟩
    obtain ⟨hw, hP1, hK1, hD1⟩ := hB
    rw [ht] at hP1
    obtain ⟨hP, hD⟩ := qah (wr := []) (w1 := (qnh a0 jaK jfS ja1 jcp jbc jbV ja3 jbH ja2 jbO jaq jac jbI jbl jbn jba jaa jbA x3)) (wn := (qnh a0 jaK jfS ja1 jcp jbc jbV ja3 jbH ja2 jbO jaq jac jbI jbl jbn jba jaa jbA x3)) hP hD [0] [] hCc rfl (by decide +kernel) (by decide +kernel) rfl hk1 hFc hP1 hD1
    generalize H1 = H at hP hS hc9 ⊢
    exact vx_out (fun x hx9 => (hXs.1 x hx9).elim) hlocks hc9 hv9 hcl9 (fun t2 ht2 hal2 => ⟨(x3), trivial, ⟨hw, by rw [ht2]; exact hP, va_K.moved hal2 hK, hD⟩, hS.F ht2⟩) hS.2.2 (nbq rfl) (nbq rfl)
  obtain ⟨x3, rfl⟩ : ∃ z, z = u := ⟨_, rfl⟩
  obtain ⟨hP1, hK1, hD1⟩ := hB
  rw [ht] at hP1
  obtain ⟨hP, hD⟩ := qah (wr := []) (w1 := (qnh a0 jaK jfS ja1 jcp jbc jbV ja3 jbH ja2 jbO jaq jac jbI jbl jbn jba jaa jbA x3)) (wn := (qnh a0 jaK jfS ja1 jcp jbc jbV ja3 jbH ja2 jbO jaq jac jbI jbl jbn jba jaa jbA x3)) hP hD [0] [] hCc rfl (by decide +kernel) (by decide +kernel) rfl hk1 hFc hP1 hD1
  generalize H1 = H at hP hS ⊢
  refine lv_aload_n hx hb (qaa qom 15 rfl) rfl (lv_at hl 0 rfl) ?_
  refine lv_iload hx hb (qaa qln 0 rfl) (lv_at hl 4 rfl) ?_
  refine lv_iconst (v := 0) hx hb (qaa qln 1 rfl) (by decide) ?_
  refine lv_iconst (v := 1) hx hb (qaa qln 2 rfl) (by decide) ?_
  obtain ⟨hCc, hPc, hDc, hFc⟩ := qac (ws' := (qnh a0 jaK jfS ja1 jcp jbc jbV ja3 jbH ja2 jbO jaq jac jbI jbl jbn jba jaa jbA x3)) hP hD hS hA [0] (by decide +kernel) rfl
  refine vx_callv (vx_runV (As := [.int p4, .int 0, .int 1]) (rest := []) ⟨hx, hb, hml, hown, hts⟩ (qaV l dC dI cyB cyI cyJ cyP a0 H.size (jaK) (jfS) (ja1) (jcp) (jbc) (jbV) (ja3) (jbH) (ja2) (jbO) (jaq) (jac) (jbI) (jbl) (jbn) (jba) (jaa) (jbA) x3 p4 0 1 hw) (cwV 3 hts gX10_few_X10_needWithin rfl rfl rfl (by decide +kernel) ⟨nbq rfl, nbq rfl⟩) ⟨qav, va_recv (q := (RX10, TX10, 19)) hK hPc (ci := 10) (q0 := 0) rfl rfl, qbl hPc hK hDc hNw hY hS hFc⟩ rfl rfl hl.1 rfl (lv_room (nbq rfl)) (qaa qln 3 rfl) ⟨nbq rfl, nbq rfl⟩) hS (fun q _ h => hFc q h) hFc (fun q _ h => hFc q h) (fun en ce q9 u t H1 locs ht hvm hpx hB hz1 hk1 hS hc9 hv9 hcl9 => ?_) (fun u t H1 locs ht hvm hw hB hz1 hk1 hS => ?_)
  · obtain ⟨x4, rfl⟩ : ∃ z, z = u := ⟨_, rfl⟩
    obtain ⟨hw, hP1, hK1, hD1⟩ := hB
    rw [ht] at hP1
    obtain ⟨hP, hD⟩ := qah (wr := []) (w1 := (qnh a0 jaK jfS ja1 jcp jbc jbV ja3 jbH ja2 jbO jaq jac jbI jbl jbn jba jaa jbA x4)) (wn := (qnh a0 jaK jfS ja1 jcp jbc jbV ja3 jbH ja2 jbO jaq jac jbI jbl jbn jba jaa jbA x4)) hP hD [0] [] hCc rfl (by decide +kernel) (by decide +kernel) rfl hk1 hFc hP1 hD1
    generalize H1 = H at hP hS hc9 ⊢
    exact vx_out (fun x hx9 => (hXs.1 x hx9).elim) hlocks hc9 hv9 hcl9 (fun t2 ht2 hal2 => ⟨(x4), trivial, ⟨hw, by rw [ht2]; exact hP, va_K.moved hal2 hK, hD⟩, hS.F ht2⟩) hS.2.2 (nbq rfl) (nbq rfl)
  obtain ⟨x4, rfl⟩ : ∃ z, z = u := ⟨_, rfl⟩
  obtain ⟨hP1, hK1, hD1⟩ := hB
  rw [ht] at hP1
  obtain ⟨hP, hD⟩ := qah (wr := []) (w1 := (qnh a0 jaK jfS ja1 jcp jbc jbV ja3 jbH ja2 jbO jaq jac jbI jbl jbn jba jaa jbA x4)) (wn := (qnh a0 jaK jfS ja1 jcp jbc jbV ja3 jbH ja2 jbO jaq jac jbI jbl jbn jba jaa jbA x4)) hP hD [0] [] hCc rfl (by decide +kernel) (by decide +kernel) rfl hk1 hFc hP1 hD1
  generalize H1 = H at hP hS ⊢
  refine lv_lconst (v := 0) hx hb (qaa qln 4 rfl) (by decide) ?_
  refine lv_lstore (lv' := [(5, .long 0), (0, .ref a0), (1, .int p1), (2, .int p2), (3, .int p3), (4, .int p4)]) hx hb (qaa qln 5 rfl) hl (by decide) rfl (fun ls hl => ?_)
  refine lv_iconst (v := 0) hx hb (qaa qln 6 rfl) (by decide) ?_
  refine lv_istore (lv' := [(7, .int 0), (5, .long 0), (0, .ref a0), (1, .int p1), (2, .int p2), (3, .int p3), (4, .int p4)]) hx hb (qaa qln 7 rfl) hl (by decide) rfl (fun ls hl => ?_)
  obtain ⟨n9, hw⟩ := hw
  exact qaMt dC dI cyB cyI cyJ cyP a0 jaK jfS ja1 jcp jbc jbV ja3 jbH ja2 jbO jaq jac jbI jbl jbn jba jaa jbA E Q C0 n9 _ _ _ x4 p1 p2 p3 p4 0 0 hP hD hS (lv_sub hl [3, 4, 5, 6, 1, 0] rfl) hw
theorem qaSP : (.classLink RL 13 "java/lang/IllegalArgumentException" : Cond) ∈ wsL_few := qaNt 595 (by decide +kernel)
theorem qaYY : (.codeWith yL_few cL_few 7 (some .int) [(0, 13, 16, 13)] : Cond) ∈ wsL_few := qaNt 3721 (by decide +kernel)
set_option maxHeartbeats 4000000 in
set_option maxRecDepth 100000 in
theorem qbbZ (l : Launch) (dC : Nat → ClassId) (dI : Nat → Nat → Nat) (cyB cyI cyJ cyP : ClassId) (a0 a5 sz : Nat) (jaK jfS ja1 jcp jbc jbV ja3 jbH ja2 jbO jaq jac jbI jbl jbn jba jaa jbA : Value) (n5 : Nat) (jbz : Int32) (f5 : Nat → Int64) (p1 p2 p3 p4 : Int32) {Q : Int32 → Int32 → (Nat → Int64) → Prop} (hw : qaOB n5 jbz f5 p1 p2 p3 p4 Q) : Met l yL_few wsL_few ({ frames := 9, cells := 4, slots := 24, locals := 193 }) (va_Pc [.ref a0, .int p1, .int p2, .int p3, .int p4, .ref a5] (cPx l (dC, dI) (kT cyB cyI cyJ cyP) (qYZ a0 jaK jfS ja1 jcp jbc jbV ja3 jbH ja2 jbO jaq jac jbI jbl jbn jba jaa jbA jbz a5 cyJ n5 f5) sz)) (va_Qi (fun (r : Int32) (u : Int32 × (Nat → Int64)) => Q r u.1 u.2) (cB (dC, dI) (kT cyB cyI cyJ cyP) (va_A (qYZ a0 jaK jfS ja1 jcp jbc jbV ja3 jbH ja2 jbO jaq jac jbI jbl jbn jba jaa jbA jbz a5 cyJ n5 f5) sz) (fun u : Int32 × (Nat → Int64) => ((qYZ a0 jaK jfS ja1 jcp jbc jbV ja3 jbH ja2 jbO jaq jac jbI jbl jbn jba jaa jbA u.1 a5 cyJ n5 u.2) : va_W))) (va_A (qYZ a0 jaK jfS ja1 jcp jbc jbV ja3 jbH ja2 jbO jaq jac jbI jbl jbn jba jaa jbA jbz a5 cyJ n5 f5) sz)) 4 24 (va_A (qYZ a0 jaK jfS ja1 jcp jbc jbV ja3 jbH ja2 jbO jaq jac jbI jbl jbn jba jaa jbA jbz a5 cyJ n5 f5) sz) := by
  refine va_MetW (cc := cL_few) (maxL := 7) (ret := (some .int)) (by decide) rfl ?_
  intro p e s m args below meth c s₁ B hml hv
  obtain ⟨rfl, hsz, hP, hK, hD0, hNw, hXl, hXu, hXn, hXt⟩ := hv
  have hx := B.exec
  have hb := B.bytes
  have hr := B.returns
  have hts := atoms_spec (ws := wsL_few) B.pre
  have hown : s.vm.findClass RL = some m.cls := findClass_of_methodNamed B.named
  have hlocks := B.notSynchronized
  subst hsz
  have hD := hD0.self (sz := s.heap.size)
  generalize hAe : va_A (qYZ a0 jaK jfS ja1 jcp jbc jbV ja3 jbH ja2 jbO jaq jac jbI jbl jbn jba jaa jbA jbz a5 cyJ n5 f5) s.heap.size = A at hD hXu hXn ⊢
  have hA : ∀ q : Nat, s.heap.size ≤ q → A q := fun q h => by rw [← hAe]; exact Or.inr h
  have hS : va_S A s.heap s.heap [] := va_S.rf
  have hP : va_P (dC, dI) vwCl (qYZ a0 jaK jfS ja1 jcp jbc jbV ja3 jbH ja2 jbO jaq jac jbI jbl jbn jba jaa jbA jbz a5 cyJ n5 f5) s.heap := hP
  have hl := lv_entry ([.ref a0, .int p1, .int p2, .int p3, .int p4, .ref a5]) (n := 7) (nbq rfl)
  rw [lg_entry_eq]
  generalize (lg_sl ([.ref a0, .int p1, .int p2, .int p3, .int p4, .ref a5]) ++ List.replicate (7 - (lg_sl ([.ref a0, .int p1, .int p2, .int p3, .int p4, .ref a5])).length) Slot.unset).toArray = ls at hl ⊢
  have hl : lv_has ls 7 [(0, .ref a0), (1, .int p1), (2, .int p2), (3, .int p3), (4, .int p4), (5, .ref a5)] := hl
  have hY : cfY l s A := ⟨hXl, hXu, hXn, hXt⟩
  have hTb := vx_table (x := yL_few) B (hts _ qaYY)
  clear hAe
  obtain ⟨H, hH⟩ : ∃ H, H = s.heap := ⟨_, rfl⟩
  rw [← hH] at hP ⊢
  have hS : va_S A s.heap H [] := by rw [hH]; exact va_S.rf
  have hS := hS
  refine lv_aload hx hb (qaa qtw 0 rfl) (lv_at hl 5 rfl) ?_
  refine lv_iconst (v := 0) hx hb (qaa qtw 1 rfl) (by decide) ?_
  refine lv_aload_n hx hb (qaa qtw 2 rfl) rfl (lv_at hl 0 rfl) ?_
  refine lv_iload_n hx hb (qaa qtw 3 rfl) rfl (lv_at hl 1 rfl) ?_
  refine lv_iload_n hx hb (qaa qtw 4 rfl) rfl (lv_at hl 2 rfl) ?_
  refine lv_iload_n hx hb (qaa qtw 5 rfl) rfl (lv_at hl 3 rfl) ?_
  refine lv_iload hx hb (qaa qtw 6 rfl) (lv_at hl 4 rfl) ?_
  obtain ⟨hCc, hPc, hDc, hFc⟩ := qac (ws' := (qnh a0 jaK jfS ja1 jcp jbc jbV ja3 jbH ja2 jbO jaq jac jbI jbl jbn jba jaa jbA jbz)) hP hD hS hA [0] (by decide +kernel) rfl
  refine vx_calll (vx_runV (As := [.int p1, .int p2, .int p3, .int p4]) (rest := [.int 0, .ref a5]) ⟨hx, hb, hml, hown, hts⟩ (qa1v l dC dI cyB cyI cyJ cyP a0 H.size (jaK) (jfS) (ja1) (jcp) (jbc) (jbV) (ja3) (jbH) (ja2) (jbO) (jaq) (jac) (jbI) (jbl) (jbn) (jba) (jaa) (jbA) jbz p1 p2 p3 p4 hw) (cwV 4 hts gL_few_X10_few rfl rfl rfl (by decide +kernel) ⟨nbq rfl, nbq rfl⟩) ⟨qav, va_recv (q := (RX10, TX10, 19)) hK hPc (ci := 10) (q0 := 0) rfl rfl, qbl hPc hK hDc hNw hY hS hFc⟩ rfl rfl hl.1 rfl (lv_room (nbq rfl)) (qaa qtw 7 rfl) ⟨nbq rfl, nbq rfl⟩) hS (fun q _ h => hFc q h) hFc (fun q _ h => hFc q h) (fun en ce qx9 u t H1 locs ht hvm hpx hB hz1 hk1 hS hc9 hv9 hcl9 => ?_) (fun r2 u t H1 locs ht hvm hw hB hz1 hk1 hS => ?_)
  · obtain ⟨x1, rfl⟩ : ∃ z, z = u := ⟨_, rfl⟩
    obtain ⟨hw, hP1, hK1, hD1⟩ := hB
    rw [ht] at hP1
    obtain ⟨hP, hD⟩ := qad (wr := [(a5, .inl (cyJ, n5, .inr (.inl f5)))]) (w1 := (qnh a0 jaK jfS ja1 jcp jbc jbV ja3 jbH ja2 jbO jaq jac jbI jbl jbn jba jaa jbA x1)) (wn := (qYZ a0 jaK jfS ja1 jcp jbc jbV ja3 jbH ja2 jbO jaq jac jbI jbl jbn jba jaa jbA x1 a5 cyJ n5 f5)) hP hD [0] [1] [1, 0] hCc rfl (by decide +kernel) (by decide +kernel) (by decide +kernel) rfl hk1 hFc hP1 hD1
    generalize H1 = H at hP hS hc9 ⊢
    obtain ⟨rfl, hw⟩ := hw
    refine vx_catch (own := RL) (name := "java/lang/IllegalArgumentException") hown [] ⟨0, 13, 16, 13⟩ [] (hTb.trans rfl) (fun z hz => nomatch hz) (by decide) (by decide) (hts _ qaSP) (va_Nw.use rfl (hY.2.2.2.1.2 _ (List.mem_of_getElem? (i := 0) rfl))) hc9 hv9 hcl9 ?_
    refine lv_astore (lv' := [(6, .ref qx9), (0, .ref a0), (1, .int p1), (2, .int p2), (3, .int p3), (4, .int p4), (5, .ref a5)]) hx hb (qaa qtw 10 rfl) hl (by decide) rfl (fun ls hl => ?_)
    refine lv_iconst (v := 1) hx hb (qaa qtw 11 rfl) (by decide) ?_
    exact (W.widen (k := 4) (n := 24) (nbq rfl) (nbq rfl) (W.iret (v := 1) hx hb hr (fun t ht hW => ⟨⟨1, (x1, f5), rfl, hw, by rw [ht]; exact hP, va_K.moved hW.alike hK, hD⟩, hS.F ht⟩) hS.2.2 (qaa qtw 12 rfl)))
  obtain ⟨x1, rfl⟩ : ∃ z, z = u := ⟨_, rfl⟩
  obtain ⟨hP1, hK1, hD1⟩ := hB
  rw [ht] at hP1
  obtain ⟨hP, hD⟩ := va_join (wr := [(a5, .inl (cyJ, n5, .inr (.inl f5)))]) (w1 := (qnh a0 jaK jfS ja1 jcp jbc jbV ja3 jbH ja2 jbO jaq jac jbI jbl jbn jba jaa jbA x1)) hP hD [0] [1] rfl rfl (by decide) (by decide) hk1 hFc hP1 hD1
  have hP : va_P (dC, dI) vwCl (qYZ a0 jaK jfS ja1 jcp jbc jbV ja3 jbH ja2 jbO jaq jac jbI jbl jbn jba jaa jbA x1 a5 cyJ n5 f5) H1 := hP.sub [1, 0] rfl
  have hD : va_D A (qYZ a0 jaK jfS ja1 jcp jbc jbV ja3 jbH ja2 jbO jaq jac jbI jbl jbn jba jaa jbA x1 a5 cyJ n5 f5) := hD.sub [1, 0] (by decide) rfl
  generalize H1 = H at hP hS ⊢
  obtain ⟨hi9, hw⟩ := hw
  refine va_last hx hb hK hP hD hS 1 2 rfl rfl hi9 (qaa qtw 8 rfl) (fun H locs hP hD hS => ?_)
  obtain ⟨f3, ef3⟩ : ∃ y : Nat → Int64, y = vp_updL f5 (0 : Int32).toNatClampNeg r2 := ⟨_, rfl⟩
  have hw := hw f3 ef3
  have hP : va_P (dC, dI) vwCl (qYZ a0 jaK jfS ja1 jcp jbc jbV ja3 jbH ja2 jbO jaq jac jbI jbl jbn jba jaa jbA x1 a5 cyJ n5 f3) H := by rw [ef3]; exact hP
  have hD : va_D A (qYZ a0 jaK jfS ja1 jcp jbc jbV ja3 jbH ja2 jbO jaq jac jbI jbl jbn jba jaa jbA x1 a5 cyJ n5 f3) := by rw [ef3]; exact hD
  refine lv_goto (tgt := 20) hx hb (qaa qtw 9 rfl) (by decide) ?_
  refine lv_iconst (v := 0) hx hb (qaa qtw 13 rfl) (by decide) ?_
  exact (W.widen (k := 4) (n := 24) (nbq rfl) (nbq rfl) (W.iret (v := 0) hx hb hr (fun t ht hW => ⟨⟨0, (x1, f3), rfl, hw, by rw [ht]; exact hP, va_K.moved hW.alike hK, hD⟩, hS.F ht⟩) hS.2.2 (qaa qtw 14 rfl)))
theorem qQi : ∀ w ∈ u_ws RX3 TX3 11, w ∈ wsX3_seatedThen := uiM qQb euX3 (by decide +kernel)
theorem q6z : (.fieldLink RX3 15 "MarchHares$Fitting" "sits" "[I" : Cond) ∈ wsX3_seatedThen := qQb 391 (by decide +kernel)
theorem qab7 : (.fieldLink RX3 9 "MarchHares$Fitting" "seated" "[I" : Cond) ∈ wsX3_seatedThen := qQb 390 (by decide +kernel)
set_option maxHeartbeats 4000000 in
set_option maxRecDepth 100000 in
theorem qPd {p : Program} {l : Launch} {e : Env} {s : State} {m : MethodId} {args : Array Value} {below : List Frame} {meth : Method} {c : Code} {A : Nat → Prop} (dC : Nat → ClassId) (dI : Nat → Nat → Nat) (cyB cyI cyJ cyP : ClassId) (a0 jhY ji2 : Nat) (jlU jmo ja4 ja0 jaO jmb jmc jkn jjZ : Value) (jiL jjH : NI) (Q : Int32 → Prop) (C0 : cfx p s m args meth c cX3_seatedThen (some .int) wsX3_seatedThen RX3 4 A (dC, dI) (kT cyB cyI cyJ cyP)) : ∀ (H : Heap) (locs : List Loc) (ls : Array Slot) (l1 l3 s0 s1 : Int32), va_P (dC, dI) vwCl (q7P a0 jhY ji2 jlU jmo ja4 ja0 jaO jmb jmc jkn jjZ jhY cyI jiL ji2 cyI jjH) H → va_D A (q7P a0 jhY ji2 jlU jmo ja4 ja0 jaO jmb jmc jkn jjZ jhY cyI jiL ji2 cyI jjH) → va_S A s.heap H locs → lv_has ls 4 [(1, .int l1), (3, .int l3)] → qFU jiL jjH Q l1 l3 s0 s1 → W p l e (headSpec wsX3_seatedThen ({ frames := 0, cells := 0, slots := 0, locals := 0 })).room s m args below meth c H locs 0 0 (MQ below (va_Qi (fun (r : Int32) (_ : Unit) => Q r ) (cB (dC, dI) (kT cyB cyI cyJ cyP) A (fun u : Unit => ((q7P a0 jhY ji2 jlU jmo ja4 ja0 jaO jmb jmc jkn jjZ jhY cyI jiL ji2 cyI jjH) : va_W))) A) args s 0 0 A) (F0 m 21 ls [.int s1, .int s0]) := by
  obtain ⟨hx, hb, hr, hts, hown, hlocks, hml, hA, hK, hNw⟩ := id C0
  intro H locs ls l1 l3 s0 s1 hP hD hS hl hw
  refine lv_isub hx hb (qaa qdg 13 rfl) ?_
  refine lv_iload_n hx hb (qaa qdg 14 rfl) rfl (lv_at hl 1 rfl) ?_
  refine lv_iload_n hx hb (qaa qdg 15 rfl) rfl (lv_at hl 0 rfl) ?_
  refine lv_icmp_ne (tgt := 31) hx hb (qaa qpf 0 rfl) (by decide) (fun c4 => ?_) (fun c4 => ?_)
  · have hw := hw.1 c4
    refine lv_iconst (v := 0) hx hb (qaa qpf 3 rfl) (by decide) ?_
    refine lv_iadd hx hb (qaa qpf 4 rfl) ?_
    exact ((W.iret (v := ((s0 - s1) + 0)) hx hb hr (fun t ht hW => ⟨⟨((s0 - s1) + 0), (), rfl, hw, by rw [ht]; exact hP, va_K.moved hW.alike hK, hD⟩, hS.F ht⟩) hS.2.2 (qaa qpf 5 rfl)))
  · have hw := hw.2 c4
    refine lv_iconst (v := 1) hx hb (qaa qpf 1 rfl) (by decide) ?_
    refine lv_goto (tgt := 32) hx hb (qaa qpf 2 rfl) (by decide) ?_
    refine lv_iadd hx hb (qaa qpf 4 rfl) ?_
    exact ((W.iret (v := ((s0 - s1) + 1)) hx hb hr (fun t ht hW => ⟨⟨((s0 - s1) + 1), (), rfl, hw, by rw [ht]; exact hP, va_K.moved hW.alike hK, hD⟩, hS.F ht⟩) hS.2.2 (qaa qpf 5 rfl)))
set_option maxHeartbeats 4000000 in
set_option maxRecDepth 100000 in
theorem qZa (l : Launch) (dC : Nat → ClassId) (dI : Nat → Nat → Nat) (cyB cyI cyJ cyP : ClassId) (a0 jhY ji2 sz : Nat) (jlU jmo ja4 ja0 jaO jmb jmc jkn jjZ : Value) (jiL jjH : NI) (p1 p2 p3 : Int32) {Q : Int32 → Prop} (hw : qEM jiL jjH p1 p2 p3 Q) : Met l yX3_seatedThen wsX3_seatedThen ({ frames := 0, cells := 0, slots := 0, locals := 0 }) (va_Pc [.ref a0, .int p1, .int p2, .int p3] (cPc (dC, dI) (kT cyB cyI cyJ cyP) (q7P a0 jhY ji2 jlU jmo ja4 ja0 jaO jmb jmc jkn jjZ jhY cyI jiL ji2 cyI jjH) sz)) (va_Qi (fun (r : Int32) (_ : Unit) => Q r ) (cB (dC, dI) (kT cyB cyI cyJ cyP) (va_A (q7P a0 jhY ji2 jlU jmo ja4 ja0 jaO jmb jmc jkn jjZ jhY cyI jiL ji2 cyI jjH) sz) (fun u : Unit => ((q7P a0 jhY ji2 jlU jmo ja4 ja0 jaO jmb jmc jkn jjZ jhY cyI jiL ji2 cyI jjH) : va_W))) (va_A (q7P a0 jhY ji2 jlU jmo ja4 ja0 jaO jmb jmc jkn jjZ jhY cyI jiL ji2 cyI jjH) sz)) 0 0 (va_A (q7P a0 jhY ji2 jlU jmo ja4 ja0 jaO jmb jmc jkn jjZ jhY cyI jiL ji2 cyI jjH) sz) := by
  refine Met.ofW (cc := cX3_seatedThen) (maxL := 4) (ret := (some .int)) (by decide) rfl ?_
  intro p e s m args below meth c s₁ B hml hv
  obtain ⟨rfl, hsz, hP, hK, hD0, hNw⟩ := hv
  have hx := B.exec
  have hb := B.bytes
  have hr := B.returns
  have hts := atoms_spec (ws := wsX3_seatedThen) B.pre
  have hown : s.vm.findClass RX3 = some m.cls := findClass_of_methodNamed B.named
  have hlocks := B.notSynchronized
  subst hsz
  have hD := hD0.self (sz := s.heap.size)
  generalize hAe : va_A (q7P a0 jhY ji2 jlU jmo ja4 ja0 jaO jmb jmc jkn jjZ jhY cyI jiL ji2 cyI jjH) s.heap.size = A at hD ⊢
  have hA : ∀ q : Nat, s.heap.size ≤ q → A q := fun q h => by rw [← hAe]; exact Or.inr h
  have hS : va_S A s.heap s.heap [] := va_S.rf
  have hP : va_P (dC, dI) vwCl (q7P a0 jhY ji2 jlU jmo ja4 ja0 jaO jmb jmc jkn jjZ jhY cyI jiL ji2 cyI jjH) s.heap := hP
  have hl := lv_entry ([.ref a0, .int p1, .int p2, .int p3]) (n := 4) (nbq rfl)
  rw [lg_entry_eq]
  generalize (lg_sl ([.ref a0, .int p1, .int p2, .int p3]) ++ List.replicate (4 - (lg_sl ([.ref a0, .int p1, .int p2, .int p3])).length) Slot.unset).toArray = ls at hl ⊢
  have hl : lv_has ls 4 [(0, .ref a0), (1, .int p1), (2, .int p2), (3, .int p3)] := hl
  have C0 : cfx p s m _ meth c cX3_seatedThen (some .int) wsX3_seatedThen RX3 4 A (dC, dI) (kT cyB cyI cyJ cyP) := ⟨hx, hb, hr, hts, hown, hlocks, hml, hA, hK, hNw⟩
  clear hAe
  obtain ⟨H, hH⟩ : ∃ H, H = s.heap := ⟨_, rfl⟩
  rw [← hH] at hP ⊢
  have hS : va_S A s.heap H [] := by rw [hH]; exact va_S.rf
  have hS := hS
  refine lv_aload_n hx hb (qaa qdg 0 rfl) rfl (lv_at hl 0 rfl) ?_
  refine va_get (D := (dC, dI)) (ci := 3) (v := .ref jhY) (C := RX3) (T := TX3) (N := 11) hx hb hts qQi hown hK hP 0 rfl rfl 0 (by decide) (hts _ qab7) (fun _ h9 => h9) rfl (qaa qdg 1 rfl) ?_
  refine lv_iload_n hx hb (qaa qdg 2 rfl) rfl (lv_at hl 1 rfl) ?_
  obtain ⟨hi9, hw⟩ := hw
  refine va_iald hx hb hK hP 1 1 rfl rfl hi9 (qaa qdg 3 rfl) ?_
  refine lv_topi (fun x1 ex1 => ?_)
  have hw := hw x1 ex1
  refine lv_aload_n hx hb (qaa qdg 4 rfl) rfl (lv_at hl 0 rfl) ?_
  refine va_get (D := (dC, dI)) (ci := 3) (v := .ref ji2) (C := RX3) (T := TX3) (N := 11) hx hb hts qQi hown hK hP 0 rfl rfl 1 (by decide) (hts _ q6z) (fun _ h9 => h9) rfl (qaa qdg 5 rfl) ?_
  refine lv_iload_n hx hb (qaa qdg 6 rfl) rfl (lv_at hl 2 rfl) ?_
  obtain ⟨hi9, hw⟩ := hw
  refine va_iald hx hb hK hP 2 1 rfl rfl hi9 (qaa qdg 7 rfl) ?_
  refine lv_topi (fun x2 ex2 => ?_)
  have hw := hw x2 ex2
  refine lv_iload_n hx hb (qaa qdg 8 rfl) rfl (lv_at hl 1 rfl) ?_
  refine lv_icmp_ne (tgt := 20) hx hb (qaa qdg 9 rfl) (by decide) (fun c3 => ?_) (fun c3 => ?_)
  · have hw := hw.1 c3
    refine lv_iconst (v := 0) hx hb (qaa qdg 12 rfl) (by decide) ?_
    exact qPd dC dI cyB cyI cyJ cyP a0 jhY ji2 jlU jmo ja4 ja0 jaO jmb jmc jkn jjZ jiL jjH Q C0 _ _ _ p1 p3 x1 0 hP hD hS (lv_sub hl [1, 3] rfl) hw
  · have hw := hw.2 c3
    refine lv_iconst (v := 1) hx hb (qaa qdg 10 rfl) (by decide) ?_
    refine lv_goto (tgt := 21) hx hb (qaa qdg 11 rfl) (by decide) ?_
    exact qPd dC dI cyB cyI cyJ cyP a0 jhY ji2 jlU jmo ja4 ja0 jaO jmb jmc jkn jjZ jiL jjH Q C0 _ _ _ p1 p3 x1 1 hP hD hS (lv_sub hl [1, 3] rfl) hw
theorem q1d : ∀ w ∈ u_ws RX0 TX0 2, w ∈ wsX0_agrees := uiM qaAK euX0 (by decide +kernel)
theorem q36 : (.fieldLink RX0 9 "MarchHares$Book" "seen" "[I" : Cond) ∈ wsX0_agrees := qaAK 257 (by decide +kernel)
set_option maxHeartbeats 4000000 in
set_option maxRecDepth 100000 in
theorem q3W {p : Program} {l : Launch} {e : Env} {s : State} {m : MethodId} {args : Array Value} {below : List Frame} {meth : Method} {c : Code} {A : Nat → Prop} (dC : Nat → ClassId) (dI : Nat → Nat → Nat) (cyB cyI cyJ cyP : ClassId) (a0 jjj : Nat) (jmb : Value) (jkG : NI) (Q : Int32 → Prop) (C0 : cfx p s m args meth c cX0_agrees (some .boolean) wsX0_agrees RX0 3 A (dC, dI) (kT cyB cyI cyJ cyP)) : ∀ (H : Heap) (locs : List Loc) (ls : Array Slot) , va_P (dC, dI) vwCl (qWb a0 jjj jmb jjj cyI jkG) H → va_D A (qWb a0 jjj jmb jjj cyI jkG) → va_S A s.heap H locs → lv_has ls 3 [] → qRo jkG Q → W p l e (headSpec wsX0_agrees ({ frames := 0, cells := 0, slots := 0, locals := 0 })).room s m args below meth c H locs 0 0 (MQ below (va_Qi (fun (r : Int32) (_ : Unit) => Q r ) (cB (dC, dI) (kT cyB cyI cyJ cyP) A (fun u : Unit => ((qWb a0 jjj jmb jjj cyI jkG) : va_W))) A) args s 0 0 A) (F0 m 20 ls []) := by
  obtain ⟨hx, hb, hr, hts, hown, hlocks, hml, hA, hK, hNw⟩ := id C0
  intro H locs ls hP hD hS hl hw
  refine lv_iconst (v := 1) hx hb (qaa qic 12 rfl) (by decide) ?_
  refine lv_goto (tgt := 25) hx hb (qaa qic 13 rfl) (by decide) ?_
  exact ((W.zret (v := 1) hx hb hr rfl (fun t ht hW => ⟨⟨1, (), rfl, hw, by rw [ht]; exact hP, va_K.moved hW.alike hK, hD⟩, hS.F ht⟩) hS.2.2 (qaa qic 15 rfl)))
set_option maxHeartbeats 4000000 in
set_option maxRecDepth 100000 in
theorem qaTj (l : Launch) (dC : Nat → ClassId) (dI : Nat → Nat → Nat) (cyB cyI cyJ cyP : ClassId) (a0 jjj sz : Nat) (jmb : Value) (jkG : NI) (p1 p2 : Int32) {Q : Int32 → Prop} (hw : q3C jkG p1 p2 Q) : Met l yX0_agrees wsX0_agrees ({ frames := 0, cells := 0, slots := 0, locals := 0 }) (va_Pc [.ref a0, .int p1, .int p2] (cPc (dC, dI) (kT cyB cyI cyJ cyP) (qWb a0 jjj jmb jjj cyI jkG) sz)) (va_Qi (fun (r : Int32) (_ : Unit) => Q r ) (cB (dC, dI) (kT cyB cyI cyJ cyP) (va_A (qWb a0 jjj jmb jjj cyI jkG) sz) (fun u : Unit => ((qWb a0 jjj jmb jjj cyI jkG) : va_W))) (va_A (qWb a0 jjj jmb jjj cyI jkG) sz)) 0 0 (va_A (qWb a0 jjj jmb jjj cyI jkG) sz) := by
  refine Met.ofW (cc := cX0_agrees) (maxL := 3) (ret := (some .boolean)) (by decide) rfl ?_
  intro p e s m args below meth c s₁ B hml hv
  obtain ⟨rfl, hsz, hP, hK, hD0, hNw⟩ := hv
  have hx := B.exec
  have hb := B.bytes
  have hr := B.returns
  have hts := atoms_spec (ws := wsX0_agrees) B.pre
  have hown : s.vm.findClass RX0 = some m.cls := findClass_of_methodNamed B.named
  have hlocks := B.notSynchronized
  subst hsz
  have hD := hD0.self (sz := s.heap.size)
  generalize hAe : va_A (qWb a0 jjj jmb jjj cyI jkG) s.heap.size = A at hD ⊢
  have hA : ∀ q : Nat, s.heap.size ≤ q → A q := fun q h => by rw [← hAe]; exact Or.inr h
  have hS : va_S A s.heap s.heap [] := va_S.rf
  have hP : va_P (dC, dI) vwCl (qWb a0 jjj jmb jjj cyI jkG) s.heap := hP
  have hl := lv_entry ([.ref a0, .int p1, .int p2]) (n := 3) (nbq rfl)
  rw [lg_entry_eq]
  generalize (lg_sl ([.ref a0, .int p1, .int p2]) ++ List.replicate (3 - (lg_sl ([.ref a0, .int p1, .int p2])).length) Slot.unset).toArray = ls at hl ⊢
  have hl : lv_has ls 3 [(0, .ref a0), (1, .int p1), (2, .int p2)] := hl
  have C0 : cfx p s m _ meth c cX0_agrees (some .boolean) wsX0_agrees RX0 3 A (dC, dI) (kT cyB cyI cyJ cyP) := ⟨hx, hb, hr, hts, hown, hlocks, hml, hA, hK, hNw⟩
  clear hAe
  obtain ⟨H, hH⟩ : ∃ H, H = s.heap := ⟨_, rfl⟩
  rw [← hH] at hP ⊢
  have hS : va_S A s.heap H [] := by rw [hH]; exact va_S.rf
  have hS := hS
  refine lv_aload_n hx hb (qaa qic 0 rfl) rfl (lv_at hl 0 rfl) ?_
  refine va_get (D := (dC, dI)) (ci := 0) (v := .ref jjj) (C := RX0) (T := TX0) (N := 2) hx hb hts q1d hown hK hP 0 rfl rfl 0 (by decide) (hts _ q36) (fun _ h9 => h9) rfl (qaa qic 1 rfl) ?_
  refine lv_iload_n hx hb (qaa qic 2 rfl) rfl (lv_at hl 1 rfl) ?_
  obtain ⟨hi9, hw⟩ := hw
  refine va_iald hx hb hK hP 1 1 rfl rfl hi9 (qaa qic 3 rfl) ?_
  refine lv_topi (fun x1 ex1 => ?_)
  have hw := hw x1 ex1
  refine lv_iconst (v := (-1)) hx hb (qaa qic 4 rfl) (by decide) ?_
  refine lv_icmp_eq (tgt := 20) hx hb (qaa qic 5 rfl) (by decide) (fun c2 => ?_) (fun c2 => ?_)
  · have hw := hw.1 c2
    exact q3W dC dI cyB cyI cyJ cyP a0 jjj jmb jkG Q C0 _ _ _ hP hD hS (lv_sub hl [] rfl) hw
  · have hw := hw.2 c2
    refine lv_aload_n hx hb (qaa qic 6 rfl) rfl (lv_at hl 0 rfl) ?_
    refine va_get (D := (dC, dI)) (ci := 0) (v := .ref jjj) (C := RX0) (T := TX0) (N := 2) hx hb hts q1d hown hK hP 0 rfl rfl 0 (by decide) (hts _ q36) (fun _ h9 => h9) rfl (qaa qic 7 rfl) ?_
    refine lv_iload_n hx hb (qaa qic 8 rfl) rfl (lv_at hl 1 rfl) ?_
    obtain ⟨hi9, hw⟩ := hw
    refine va_iald hx hb hK hP 1 1 rfl rfl hi9 (qaa qic 9 rfl) ?_
    refine lv_topi (fun x3 ex3 => ?_)
    have hw := hw x3 ex3
    refine lv_iload_n hx hb (qaa qic 10 rfl) rfl (lv_at hl 2 rfl) ?_
    refine lv_icmp_ne (tgt := 24) hx hb (qaa qic 11 rfl) (by decide) (fun c4 => ?_) (fun c4 => ?_)
    · have hw := hw.1 c4
      refine lv_iconst (v := 0) hx hb (qaa qic 14 rfl) (by decide) ?_
      exact ((W.zret (v := 0) hx hb hr rfl (fun t ht hW => ⟨⟨0, (), rfl, hw, by rw [ht]; exact hP, va_K.moved hW.alike hK, hD⟩, hS.F ht⟩) hS.2.2 (qaa qic 15 rfl)))
    · have hw := hw.2 c4
      exact q3W dC dI cyB cyI cyJ cyP a0 jjj jmb jkG Q C0 _ _ _ hP hD hS (lv_sub hl [] rfl) hw
theorem qJy : ∀ w ∈ u_ws RX3 TX3 11, w ∈ wsX3_allRight := uiM qzM euX3 (by decide +kernel)
theorem qafA : (.fieldLink RX3 40 "MarchHares$Fitting" "forms" "I" : Cond) ∈ wsX3_allRight := qzM 3470 (by decide +kernel)
theorem qRH : (.fieldLink RX3 41 "MarchHares$Fitting" "book" "LMarchHares$Book;" : Cond) ∈ wsX3_allRight := qzM 3471 (by decide +kernel)
set_option maxHeartbeats 4000000 in
set_option maxRecDepth 100000 in
theorem qauP {p : Program} {l : Launch} {e : Env} {s : State} {m : MethodId} {args : Array Value} {below : List Frame} {meth : Method} {c : Code} {A : Nat → Prop} (dC : Nat → ClassId) (dI : Nat → Nat → Nat) (cyB cyI cyJ cyP : ClassId) (a0 jdj jhY ji2 jj4 : Nat) (jlU jmo ja4 jmb jmc jkn jjZ jlV : Value) (jaN : Int32) (jiL jjH jkE : NI) (Q : Int32 → Prop) (C0 : cfx p s m args meth c cX3_allRight (some .boolean) wsX3_allRight RX3 4 A (dC, dI) (kT cyB cyI cyJ cyP)) : ∀ (n : Nat) (H : Heap) (locs : List Loc) (ls : Array Slot) (l1 l2 l3 : Int32), va_P (dC, dI) vwCl (qZO a0 jhY ji2 jlU jmo ja4 jaN jdj jmb jmc jkn jjZ jhY cyI jiL ji2 cyI jjH jdj jj4 jlV jj4 cyI jkE) H → va_D A (qZO a0 jhY ji2 jlU jmo ja4 jaN jdj jmb jmc jkn jjZ jhY cyI jiL ji2 cyI jjH jdj jj4 jlV jj4 cyI jkE) → va_S A s.heap H locs → lv_has ls 4 [(0, .ref a0), (1, .int l1), (2, .int l2), (3, .int l3)] → qEs jaN jiL jjH jkE Q n l1 l2 l3 → W p l e (headSpec wsX3_allRight ({ frames := 1, cells := 0, slots := 0, locals := 23 })).room s m args below meth c H locs 0 0 (MQ below (va_Qi (fun (r : Int32) (_ : Unit) => Q r ) (cB (dC, dI) (kT cyB cyI cyJ cyP) A (fun u : Unit => ((qZO a0 jhY ji2 jlU jmo ja4 jaN jdj jmb jmc jkn jjZ jhY cyI jiL ji2 cyI jjH jdj jj4 jlV jj4 cyI jkE) : va_W))) A) args s 0 0 A) (F0 m 2 ls []) := by
  obtain ⟨hx, hb, hr, hts, hown, hlocks, hml, hA, hK, hNw⟩ := id C0
  intro n
  induction n with
  | zero => intro H locs ls l1 l2 l3 hP hD hS hl hw; exact False.elim hw
  | succ n ih =>
    intro H locs ls l1 l2 l3 hP hD hS hl hw
    refine lv_iload_n hx hb (qaa qfR 2 rfl) rfl (lv_at hl 3 rfl) ?_
    refine lv_aload_n hx hb (qaa qfR 3 rfl) rfl (lv_at hl 0 rfl) ?_
    refine va_get (D := (dC, dI)) (ci := 3) (v := .int jaN) (C := RX3) (T := TX3) (N := 11) hx hb hts qJy hown hK hP 0 rfl rfl 5 (by decide) (hts _ qafA) (fun _ h9 => h9) rfl (qaa qfR 4 rfl) ?_
    refine lv_icmp_ge (tgt := 43) hx hb (qaa qfR 5 rfl) (by decide) (fun c1 => ?_) (fun c1 => ?_)
    · have hw := hw.1 c1
      refine lv_iconst (v := 1) hx hb (qaa qpE 7 rfl) (by decide) ?_
      exact ((W.zret (v := 1) hx hb hr rfl (fun t ht hW => ⟨⟨1, (), rfl, hw, by rw [ht]; exact hP, va_K.moved hW.alike hK, hD⟩, hS.F ht⟩) hS.2.2 (qaa qpE 8 rfl)))
    · have hw := hw.2 c1
      refine lv_aload_n hx hb (qaa qfR 6 rfl) rfl (lv_at hl 0 rfl) ?_
      refine va_get (D := (dC, dI)) (ci := 3) (v := .ref jdj) (C := RX3) (T := TX3) (N := 11) hx hb hts qJy hown hK hP 0 rfl rfl 6 (by decide) (hts _ qRH) (fun _ h9 => h9) rfl (qaa qfR 7 rfl) ?_
      refine lv_ifnull hx hb (qaa qfR 8 rfl) ?_
      refine lv_aload_n hx hb (qaa qfR 9 rfl) rfl (lv_at hl 0 rfl) ?_
      refine va_get (D := (dC, dI)) (ci := 3) (v := .ref jdj) (C := RX3) (T := TX3) (N := 11) hx hb hts qJy hown hK hP 0 rfl rfl 6 (by decide) (hts _ qRH) (fun _ h9 => h9) rfl (qaa qfR 10 rfl) ?_
      refine lv_iload_n hx hb (qaa qfR 11 rfl) rfl (lv_at hl 3 rfl) ?_
      refine lv_aload_n hx hb (qaa qfR 12 rfl) rfl (lv_at hl 0 rfl) ?_
      refine lv_iload_n hx hb (qaa qfR 13 rfl) rfl (lv_at hl 3 rfl) ?_
      refine lv_iload_n hx hb (qaa qfR 14 rfl) rfl (lv_at hl 1 rfl) ?_
      refine lv_iload_n hx hb (qaa qfR 15 rfl) rfl (lv_at hl 2 rfl) ?_
      obtain ⟨hCc, hPc, hDc, hFc⟩ := qac (ws' := (qaZV a0 jhY ji2 jlU jmo ja4 jaN jdj jmb jmc jkn jjZ jhY cyI jiL ji2 cyI jjH)) hP hD hS hA [0, 1, 2] (by decide +kernel) rfl
      refine va_calli (va_runV (As := [.int l3, .int l1, .int l2]) (rest := [.int l3, .ref jdj]) ⟨hx, hb, hml, hown, hts⟩ (qZa l dC dI cyB cyI cyJ cyP a0 jhY ji2 H.size (jlU) (jmo) (ja4) (.int jaN) (.ref jdj) (jmb) (jmc) (jkn) (jjZ) jiL jjH l3 l1 l2 hw) (cwV 3 hts gX3_allRight_X3_seatedThen rfl rfl rfl (by decide +kernel) ⟨nbq rfl, nbq rfl⟩) ⟨qab, va_recv (q := (RX3, TX3, 11)) hK hPc (ci := 3) (q0 := 0) rfl rfl, qae hPc hK hDc hNw⟩ rfl rfl hl.1 rfl (lv_room (nbq rfl)) (qaa qpE 0 rfl) ⟨nbq rfl, nbq rfl⟩) hS (fun q _ h => hFc q h) hFc (fun r2 u t H1 locs ht hvm hw hB hz1 hk1 hS => ?_)
      obtain ⟨hP1, hK1, hD1⟩ := hB
      rw [ht] at hP1
      obtain ⟨hP, hD⟩ := qad (wr := (qWb jdj jj4 jlV jj4 cyI jkE)) (w1 := (qaZV a0 jhY ji2 jlU jmo ja4 jaN jdj jmb jmc jkn jjZ jhY cyI jiL ji2 cyI jjH)) (wn := (qZO a0 jhY ji2 jlU jmo ja4 jaN jdj jmb jmc jkn jjZ jhY cyI jiL ji2 cyI jjH jdj jj4 jlV jj4 cyI jkE)) hP hD [0, 1, 2] [3, 4] [2, 3, 4, 0, 1] hCc rfl (by decide +kernel) (by decide +kernel) (by decide +kernel) rfl hk1 hFc hP1 hD1
      generalize H1 = H at hP hS ⊢
      obtain ⟨hCc, hPc, hDc, hFc⟩ := qac (ws' := (qWb jdj jj4 jlV jj4 cyI jkE)) hP hD hS hA [3, 4] (by decide +kernel) rfl
      refine va_calli (va_runV (As := [.int l3, .int r2]) (rest := []) ⟨hx, hb, hml, hown, hts⟩ (qaTj l dC dI cyB cyI cyJ cyP jdj jj4 H.size (jlV) jkE l3 r2 hw) (cwV 2 hts gX3_allRight_X0_agrees rfl rfl rfl (by decide +kernel) ⟨nbq rfl, nbq rfl⟩) ⟨qab, va_recv (q := (RX0, TX0, 2)) hK hPc (ci := 0) (q0 := 0) rfl rfl, qae hPc hK hDc hNw⟩ rfl rfl hl.1 rfl (lv_room (nbq rfl)) (qaa qpE 1 rfl) ⟨nbq rfl, nbq rfl⟩) hS (fun q _ h => hFc q h) hFc (fun r3 u t H1 locs ht hvm hw hB hz1 hk1 hS => ?_)
      obtain ⟨hP1, hK1, hD1⟩ := hB
      rw [ht] at hP1
      obtain ⟨hP, hD⟩ := qah (wr := (qaZV a0 jhY ji2 jlU jmo ja4 jaN jdj jmb jmc jkn jjZ jhY cyI jiL ji2 cyI jjH)) (w1 := (qWb jdj jj4 jlV jj4 cyI jkE)) (wn := (qZO a0 jhY ji2 jlU jmo ja4 jaN jdj jmb jmc jkn jjZ jhY cyI jiL ji2 cyI jjH jdj jj4 jlV jj4 cyI jkE)) hP hD [3, 4] [0, 1, 2] hCc rfl (by decide +kernel) (by decide +kernel) rfl hk1 hFc hP1 hD1
      generalize H1 = H at hP hS ⊢
      refine lv_if_ne (tgt := 37) hx hb (qaa qpE 2 rfl) (by decide) (fun c4 => ?_) (fun c4 => ?_)
      · have hw := hw.1 c4
        obtain ⟨x5, ex5⟩ : ∃ y : Int32, y = l3 + 1 := ⟨_, rfl⟩
        have hw := hw x5 ex5
        refine lv_iinc (v := x5) (lv' := [(3, .int x5), (0, .ref a0), (1, .int l1), (2, .int l2)]) hx hb (qaa qpE 5 rfl) hl (k := 3) rfl (by rw [ex5]; rfl) (by decide) rfl (fun ls hl => ?_)
        refine lv_goto (tgt := 2) hx hb (qaa qpE 6 rfl) (by decide) ?_
        exact ih _ _ _ l1 l2 x5 hP hD hS (lv_sub hl [1, 2, 3, 0] rfl) hw
      · have hw := hw.2 c4
        refine lv_iconst (v := 0) hx hb (qaa qpE 3 rfl) (by decide) ?_
        exact ((W.zret (v := 0) hx hb hr rfl (fun t ht hW => ⟨⟨0, (), rfl, hw, by rw [ht]; exact hP, va_K.moved hW.alike hK, hD⟩, hS.F ht⟩) hS.2.2 (qaa qpE 4 rfl)))
set_option maxHeartbeats 4000000 in
set_option maxRecDepth 100000 in
theorem qaKb (l : Launch) (dC : Nat → ClassId) (dI : Nat → Nat → Nat) (cyB cyI cyJ cyP : ClassId) (a0 jdj jhY ji2 jj4 sz : Nat) (jlU jmo ja4 jmb jmc jkn jjZ jlV : Value) (jaN : Int32) (jiL jjH jkE : NI) (p1 p2 : Int32) {Q : Int32 → Prop} (hw : qT9 jaN jiL jjH jkE p1 p2 Q) : Met l yX3_allRight wsX3_allRight ({ frames := 1, cells := 0, slots := 0, locals := 23 }) (va_Pc [.ref a0, .int p1, .int p2] (cPc (dC, dI) (kT cyB cyI cyJ cyP) (qZO a0 jhY ji2 jlU jmo ja4 jaN jdj jmb jmc jkn jjZ jhY cyI jiL ji2 cyI jjH jdj jj4 jlV jj4 cyI jkE) sz)) (va_Qi (fun (r : Int32) (_ : Unit) => Q r ) (cB (dC, dI) (kT cyB cyI cyJ cyP) (va_A (qZO a0 jhY ji2 jlU jmo ja4 jaN jdj jmb jmc jkn jjZ jhY cyI jiL ji2 cyI jjH jdj jj4 jlV jj4 cyI jkE) sz) (fun u : Unit => ((qZO a0 jhY ji2 jlU jmo ja4 jaN jdj jmb jmc jkn jjZ jhY cyI jiL ji2 cyI jjH jdj jj4 jlV jj4 cyI jkE) : va_W))) (va_A (qZO a0 jhY ji2 jlU jmo ja4 jaN jdj jmb jmc jkn jjZ jhY cyI jiL ji2 cyI jjH jdj jj4 jlV jj4 cyI jkE) sz)) 0 0 (va_A (qZO a0 jhY ji2 jlU jmo ja4 jaN jdj jmb jmc jkn jjZ jhY cyI jiL ji2 cyI jjH jdj jj4 jlV jj4 cyI jkE) sz) := by
  refine Met.ofW (cc := cX3_allRight) (maxL := 4) (ret := (some .boolean)) (by decide) rfl ?_
  intro p e s m args below meth c s₁ B hml hv
  obtain ⟨rfl, hsz, hP, hK, hD0, hNw⟩ := hv
  have hx := B.exec
  have hb := B.bytes
  have hr := B.returns
  have hts := atoms_spec (ws := wsX3_allRight) B.pre
  have hown : s.vm.findClass RX3 = some m.cls := findClass_of_methodNamed B.named
  have hlocks := B.notSynchronized
  subst hsz
  have hD := hD0.self (sz := s.heap.size)
  generalize hAe : va_A (qZO a0 jhY ji2 jlU jmo ja4 jaN jdj jmb jmc jkn jjZ jhY cyI jiL ji2 cyI jjH jdj jj4 jlV jj4 cyI jkE) s.heap.size = A at hD ⊢
  have hA : ∀ q : Nat, s.heap.size ≤ q → A q := fun q h => by rw [← hAe]; exact Or.inr h
  have hS : va_S A s.heap s.heap [] := va_S.rf
  have hP : va_P (dC, dI) vwCl (qZO a0 jhY ji2 jlU jmo ja4 jaN jdj jmb jmc jkn jjZ jhY cyI jiL ji2 cyI jjH jdj jj4 jlV jj4 cyI jkE) s.heap := hP
  have hl := lv_entry ([.ref a0, .int p1, .int p2]) (n := 4) (nbq rfl)
  rw [lg_entry_eq]
  generalize (lg_sl ([.ref a0, .int p1, .int p2]) ++ List.replicate (4 - (lg_sl ([.ref a0, .int p1, .int p2])).length) Slot.unset).toArray = ls at hl ⊢
  have hl : lv_has ls 4 [(0, .ref a0), (1, .int p1), (2, .int p2)] := hl
  have C0 : cfx p s m _ meth c cX3_allRight (some .boolean) wsX3_allRight RX3 4 A (dC, dI) (kT cyB cyI cyJ cyP) := ⟨hx, hb, hr, hts, hown, hlocks, hml, hA, hK, hNw⟩
  clear hAe
  obtain ⟨H, hH⟩ : ∃ H, H = s.heap := ⟨_, rfl⟩
  rw [← hH] at hP ⊢
  have hS : va_S A s.heap H [] := by rw [hH]; exact va_S.rf
  have hS := hS
  refine lv_iconst (v := 0) hx hb (qaa qfR 0 rfl) (by decide) ?_
  refine lv_istore_n (lv' := [(3, .int 0), (0, .ref a0), (1, .int p1), (2, .int p2)]) hx hb (qaa qfR 1 rfl) rfl hl (by decide) rfl (fun ls hl => ?_)
  obtain ⟨n9, hw⟩ := hw
  exact qauP dC dI cyB cyI cyJ cyP a0 jdj jhY ji2 jj4 jlU jmo ja4 jmb jmc jkn jjZ jlV jaN jiL jjH jkE Q C0 n9 _ _ _ p1 p2 0 hP hD hS (lv_sub hl [1, 2, 3, 0] rfl) hw
theorem qvu : ∀ w ∈ u_ws RX3 TX3 11, w ∈ wsX3_formsFor := uiM qC9 euX3 (by decide +kernel)
theorem qagR : (.fieldLink RX3 40 "MarchHares$Fitting" "forms" "I" : Cond) ∈ wsX3_formsFor := qC9 3470 (by decide +kernel)
theorem qIR : (.fieldLink RX3 45 "MarchHares$Fitting" "many" "I" : Cond) ∈ wsX3_formsFor := qC9 3472 (by decide +kernel)
theorem qSJ : (.fieldLink RX3 48 "MarchHares$Fitting" "first" "I" : Cond) ∈ wsX3_formsFor := qC9 3473 (by decide +kernel)
set_option maxHeartbeats 4000000 in
set_option maxRecDepth 100000 in
theorem qVd {p : Program} {l : Launch} {e : Env} {s : State} {m : MethodId} {args : Array Value} {below : List Frame} {meth : Method} {c : Code} {A : Nat → Prop} (dC : Nat → ClassId) (dI : Nat → Nat → Nat) (cyB cyI cyJ cyP : ClassId) (a0 jhY ji2 jdj jj4 : Nat) (jlU jmo ja4 jkn jjZ jlV : Value) (jaN : Int32) (jiL jjH jkE : NI) (Q : Int32 → Int32 → Int32 → Prop) (K4 : Int32 → Int32 → Int32 → Int32 → Int32 → Prop) (hK4 : ∀ (H : Heap) (locs : List Loc) (ls : Array Slot) (jl7 jkY l1 l2 l3 : Int32), va_P (dC, dI) vwCl (qsb a0 jhY ji2 jlU jmo ja4 jaN jdj jkY jl7 jkn jjZ jhY cyI jiL ji2 cyI jjH jdj jj4 jlV jj4 cyI jkE) H → va_D A (qsb a0 jhY ji2 jlU jmo ja4 jaN jdj jkY jl7 jkn jjZ jhY cyI jiL ji2 cyI jjH jdj jj4 jlV jj4 cyI jkE) → va_S A s.heap H locs → lv_has ls 4 [(0, .ref a0), (1, .int l1), (2, .int l2), (3, .int l3)] → K4 jl7 jkY l1 l2 l3 → W p l e (headSpec wsX3_formsFor ({ frames := 2, cells := 0, slots := 0, locals := 46 })).room s m args below meth c H locs 0 0 (MQ below (va_Qi (fun (r : Int32) (u : Int32 × Int32) => Q r u.1 u.2) (cB (dC, dI) (kT cyB cyI cyJ cyP) A (fun u : Int32 × Int32 => ((qsb a0 jhY ji2 jlU jmo ja4 jaN jdj u.2 u.1 jkn jjZ jhY cyI jiL ji2 cyI jjH jdj jj4 jlV jj4 cyI jkE) : va_W))) A) args s 0 0 A) (F0 m 4 ls [])) (C0 : cfx p s m args meth c cX3_formsFor (some .int) wsX3_formsFor RX3 4 A (dC, dI) (kT cyB cyI cyJ cyP)) : ∀ (H : Heap) (locs : List Loc) (ls : Array Slot) (jl7 jkY l1 l2 l3 : Int32), va_P (dC, dI) vwCl (qsb a0 jhY ji2 jlU jmo ja4 jaN jdj jkY jl7 jkn jjZ jhY cyI jiL ji2 cyI jjH jdj jj4 jlV jj4 cyI jkE) H → va_D A (qsb a0 jhY ji2 jlU jmo ja4 jaN jdj jkY jl7 jkn jjZ jhY cyI jiL ji2 cyI jjH jdj jj4 jlV jj4 cyI jkE) → va_S A s.heap H locs → lv_has ls 4 [(0, .ref a0), (1, .int l1), (2, .int l2), (3, .int l3)] → qJO jaN jiL jjH jkE Q K4 jl7 jkY l1 l2 l3 → W p l e (headSpec wsX3_formsFor ({ frames := 2, cells := 0, slots := 0, locals := 46 })).room s m args below meth c H locs 0 0 (MQ below (va_Qi (fun (r : Int32) (u : Int32 × Int32) => Q r u.1 u.2) (cB (dC, dI) (kT cyB cyI cyJ cyP) A (fun u : Int32 × Int32 => ((qsb a0 jhY ji2 jlU jmo ja4 jaN jdj u.2 u.1 jkn jjZ jhY cyI jiL ji2 cyI jjH jdj jj4 jlV jj4 cyI jkE) : va_W))) A) args s 0 0 A) (F0 m 61 ls []) := by
  obtain ⟨hx, hb, hr, hts, hown, hlocks, hml, hA, hK, hNw⟩ := id C0
  intro H locs ls jl7 jkY l1 l2 l3 hP hD hS hl hw
  obtain ⟨x8, ex8⟩ : ∃ y : Int32, y = l3 + 1 := ⟨_, rfl⟩
  have hw := hw x8 ex8
  refine lv_iinc (v := x8) (lv' := [(3, .int x8), (0, .ref a0), (1, .int l1), (2, .int l2)]) hx hb (qaa qog 6 rfl) hl (k := 3) rfl (by rw [ex8]; rfl) (by decide) rfl (fun ls hl => ?_)
  refine lv_goto (tgt := 4) hx hb (qaa qog 7 rfl) (by decide) ?_
  exact hK4 _ _ _ jl7 jkY l1 l2 x8 hP hD hS (lv_sub hl [1, 2, 3, 0] rfl) hw
set_option maxHeartbeats 4000000 in
set_option maxRecDepth 100000 in
theorem qVN {p : Program} {l : Launch} {e : Env} {s : State} {m : MethodId} {args : Array Value} {below : List Frame} {meth : Method} {c : Code} {A : Nat → Prop} (dC : Nat → ClassId) (dI : Nat → Nat → Nat) (cyB cyI cyJ cyP : ClassId) (a0 jhY ji2 jdj jj4 : Nat) (jlU jmo ja4 jkn jjZ jlV : Value) (jaN : Int32) (jiL jjH jkE : NI) (Q : Int32 → Int32 → Int32 → Prop) (K4 : Int32 → Int32 → Int32 → Int32 → Int32 → Prop) (hK4 : ∀ (H : Heap) (locs : List Loc) (ls : Array Slot) (jl7 jkY l1 l2 l3 : Int32), va_P (dC, dI) vwCl (qsb a0 jhY ji2 jlU jmo ja4 jaN jdj jkY jl7 jkn jjZ jhY cyI jiL ji2 cyI jjH jdj jj4 jlV jj4 cyI jkE) H → va_D A (qsb a0 jhY ji2 jlU jmo ja4 jaN jdj jkY jl7 jkn jjZ jhY cyI jiL ji2 cyI jjH jdj jj4 jlV jj4 cyI jkE) → va_S A s.heap H locs → lv_has ls 4 [(0, .ref a0), (1, .int l1), (2, .int l2), (3, .int l3)] → K4 jl7 jkY l1 l2 l3 → W p l e (headSpec wsX3_formsFor ({ frames := 2, cells := 0, slots := 0, locals := 46 })).room s m args below meth c H locs 0 0 (MQ below (va_Qi (fun (r : Int32) (u : Int32 × Int32) => Q r u.1 u.2) (cB (dC, dI) (kT cyB cyI cyJ cyP) A (fun u : Int32 × Int32 => ((qsb a0 jhY ji2 jlU jmo ja4 jaN jdj u.2 u.1 jkn jjZ jhY cyI jiL ji2 cyI jjH jdj jj4 jlV jj4 cyI jkE) : va_W))) A) args s 0 0 A) (F0 m 4 ls [])) (C0 : cfx p s m args meth c cX3_formsFor (some .int) wsX3_formsFor RX3 4 A (dC, dI) (kT cyB cyI cyJ cyP)) : ∀ (H : Heap) (locs : List Loc) (ls : Array Slot) (jl7 jkY l1 l2 l3 s1 : Int32), va_P (dC, dI) vwCl (qsb a0 jhY ji2 jlU jmo ja4 jaN jdj jkY jl7 jkn jjZ jhY cyI jiL ji2 cyI jjH jdj jj4 jlV jj4 cyI jkE) H → va_D A (qsb a0 jhY ji2 jlU jmo ja4 jaN jdj jkY jl7 jkn jjZ jhY cyI jiL ji2 cyI jjH jdj jj4 jlV jj4 cyI jkE) → va_S A s.heap H locs → lv_has ls 4 [(0, .ref a0), (1, .int l1), (2, .int l2), (3, .int l3)] → qKc jaN jiL jjH jkE Q K4 jl7 jkY l1 l2 l3 s1 → W p l e (headSpec wsX3_formsFor ({ frames := 2, cells := 0, slots := 0, locals := 46 })).room s m args below meth c H locs 0 0 (MQ below (va_Qi (fun (r : Int32) (u : Int32 × Int32) => Q r u.1 u.2) (cB (dC, dI) (kT cyB cyI cyJ cyP) A (fun u : Int32 × Int32 => ((qsb a0 jhY ji2 jlU jmo ja4 jaN jdj u.2 u.1 jkn jjZ jhY cyI jiL ji2 cyI jjH jdj jj4 jlV jj4 cyI jkE) : va_W))) A) args s 0 0 A) (F0 m 48 ls [.int s1, .ref a0]) := by
  obtain ⟨hx, hb, hr, hts, hown, hlocks, hml, hA, hK, hNw⟩ := id C0
  intro H locs ls jl7 jkY l1 l2 l3 s1 hP hD hS hl hw
  refine va_put (D := (dC, dI)) (ci := 3) (v := .int s1) (ty := .int) (C := RX3) (T := TX3) (N := 11) hx hb hts qvu tyX3 tyX3_ok nmX3 hown hK hP hD hS 0 rfl rfl 8 (by decide) (hts _ qSJ) (fun _ h9 => h9) rfl (by decide +kernel) rfl rfl (nbq rfl) (qaa qdX 15 rfl) (fun H locs hP hD hS => ?_)
  have hP : va_P (dC, dI) vwCl (qsb a0 jhY ji2 jlU jmo ja4 jaN jdj jkY s1 jkn jjZ jhY cyI jiL ji2 cyI jjH jdj jj4 jlV jj4 cyI jkE) H := hP
  have hD : va_D A (qsb a0 jhY ji2 jlU jmo ja4 jaN jdj jkY s1 jkn jjZ jhY cyI jiL ji2 cyI jjH jdj jj4 jlV jj4 cyI jkE) := hD
  refine lv_aload_n hx hb (qaa qog 0 rfl) rfl (lv_at hl 0 rfl) ?_
  refine lv_dup hx hb (qaa qog 1 rfl) rfl ?_
  refine va_get (D := (dC, dI)) (ci := 3) (v := .int jkY) (C := RX3) (T := TX3) (N := 11) hx hb hts qvu hown hK hP 0 rfl rfl 7 (by decide) (hts _ qIR) (fun _ h9 => h9) rfl (qaa qog 2 rfl) ?_
  refine lv_iconst (v := 1) hx hb (qaa qog 3 rfl) (by decide) ?_
  refine lv_iadd hx hb (qaa qog 4 rfl) ?_
  refine lv_topi (fun x9 ex9 => ?_)
  have hw := hw x9 ex9
  refine va_put (D := (dC, dI)) (ci := 3) (v := .int x9) (ty := .int) (C := RX3) (T := TX3) (N := 11) hx hb hts qvu tyX3 tyX3_ok nmX3 hown hK hP hD hS 0 rfl rfl 7 (by decide) (hts _ qIR) (fun _ h9 => h9) rfl (by decide +kernel) rfl rfl (nbq rfl) (qaa qog 5 rfl) (fun H locs hP hD hS => ?_)
  have hP : va_P (dC, dI) vwCl (qsb a0 jhY ji2 jlU jmo ja4 jaN jdj x9 s1 jkn jjZ jhY cyI jiL ji2 cyI jjH jdj jj4 jlV jj4 cyI jkE) H := hP
  have hD : va_D A (qsb a0 jhY ji2 jlU jmo ja4 jaN jdj x9 s1 jkn jjZ jhY cyI jiL ji2 cyI jjH jdj jj4 jlV jj4 cyI jkE) := hD
  exact qVd dC dI cyB cyI cyJ cyP a0 jhY ji2 jdj jj4 jlU jmo ja4 jkn jjZ jlV jaN jiL jjH jkE Q K4 hK4 C0 _ _ _ s1 x9 l1 l2 l3 hP hD hS (lv_sub hl [0, 1, 2, 3] rfl) hw
set_option maxHeartbeats 4000000 in
set_option maxRecDepth 100000 in
theorem qasB {p : Program} {l : Launch} {e : Env} {s : State} {m : MethodId} {args : Array Value} {below : List Frame} {meth : Method} {c : Code} {A : Nat → Prop} (dC : Nat → ClassId) (dI : Nat → Nat → Nat) (cyB cyI cyJ cyP : ClassId) (a0 jhY ji2 jdj jj4 : Nat) (jlU jmo ja4 jkn jjZ jlV : Value) (jaN : Int32) (jiL jjH jkE : NI) (Q : Int32 → Int32 → Int32 → Prop) (C0 : cfx p s m args meth c cX3_formsFor (some .int) wsX3_formsFor RX3 4 A (dC, dI) (kT cyB cyI cyJ cyP)) : ∀ (n : Nat) (H : Heap) (locs : List Loc) (ls : Array Slot) (jl7 jkY l1 l2 l3 : Int32), va_P (dC, dI) vwCl (qsb a0 jhY ji2 jlU jmo ja4 jaN jdj jkY jl7 jkn jjZ jhY cyI jiL ji2 cyI jjH jdj jj4 jlV jj4 cyI jkE) H → va_D A (qsb a0 jhY ji2 jlU jmo ja4 jaN jdj jkY jl7 jkn jjZ jhY cyI jiL ji2 cyI jjH jdj jj4 jlV jj4 cyI jkE) → va_S A s.heap H locs → lv_has ls 4 [(0, .ref a0), (1, .int l1), (2, .int l2), (3, .int l3)] → qqT jaN jiL jjH jkE Q n jl7 jkY l1 l2 l3 → W p l e (headSpec wsX3_formsFor ({ frames := 2, cells := 0, slots := 0, locals := 46 })).room s m args below meth c H locs 0 0 (MQ below (va_Qi (fun (r : Int32) (u : Int32 × Int32) => Q r u.1 u.2) (cB (dC, dI) (kT cyB cyI cyJ cyP) A (fun u : Int32 × Int32 => ((qsb a0 jhY ji2 jlU jmo ja4 jaN jdj u.2 u.1 jkn jjZ jhY cyI jiL ji2 cyI jjH jdj jj4 jlV jj4 cyI jkE) : va_W))) A) args s 0 0 A) (F0 m 4 ls []) := by
  obtain ⟨hx, hb, hr, hts, hown, hlocks, hml, hA, hK, hNw⟩ := id C0
  intro n
  induction n with
  | zero => intro H locs ls jl7 jkY l1 l2 l3 hP hD hS hl hw; exact False.elim hw
  | succ n ih =>
    intro H locs ls jl7 jkY l1 l2 l3 hP hD hS hl hw
    refine lv_iload_n hx hb (qaa qfK 4 rfl) rfl (lv_at hl 3 rfl) ?_
    refine lv_aload_n hx hb (qaa qfK 5 rfl) rfl (lv_at hl 0 rfl) ?_
    refine va_get (D := (dC, dI)) (ci := 3) (v := .int jaN) (C := RX3) (T := TX3) (N := 11) hx hb hts qvu hown hK hP 0 rfl rfl 5 (by decide) (hts _ qagR) (fun _ h9 => h9) rfl (qaa qfK 6 rfl) ?_
    refine lv_icmp_ge (tgt := 67) hx hb (qaa qfK 7 rfl) (by decide) (fun c1 => ?_) (fun c1 => ?_)
    · have hw := hw.1 c1
      refine lv_iload_n hx hb (qaa qog 8 rfl) rfl (lv_at hl 2 rfl) ?_
      exact ((W.iret (v := l2) hx hb hr (fun t ht hW => ⟨⟨l2, (jl7, jkY), rfl, hw, by rw [ht]; exact hP, va_K.moved hW.alike hK, hD⟩, hS.F ht⟩) hS.2.2 (qaa qog 9 rfl)))
    · have hw := hw.2 c1
      refine lv_aload_n hx hb (qaa qfK 8 rfl) rfl (lv_at hl 0 rfl) ?_
      refine lv_iload_n hx hb (qaa qfK 9 rfl) rfl (lv_at hl 1 rfl) ?_
      refine lv_iload_n hx hb (qaa qfK 10 rfl) rfl (lv_at hl 3 rfl) ?_
      obtain ⟨hCc, hPc, hDc, hFc⟩ := qac (ws' := (qsb a0 jhY ji2 jlU jmo ja4 jaN jdj jkY jl7 jkn jjZ jhY cyI jiL ji2 cyI jjH jdj jj4 jlV jj4 cyI jkE)) hP hD hS hA [0, 1, 2, 3, 4] (by decide +kernel) rfl
      refine va_calli (va_runV (As := [.int l1, .int l3]) (rest := []) ⟨hx, hb, hml, hown, hts⟩ (qaKb l dC dI cyB cyI cyJ cyP a0 jdj jhY ji2 jj4 H.size (jlU) (jmo) (ja4) (.int jkY) (.int jl7) (jkn) (jjZ) (jlV) jaN jiL jjH jkE l1 l3 hw) (cwV 2 hts gX3_formsFor_X3_allRight rfl rfl rfl (by decide +kernel) ⟨nbq rfl, nbq rfl⟩) ⟨qab, va_recv (q := (RX3, TX3, 11)) hK hPc (ci := 3) (q0 := 0) rfl rfl, qae hPc hK hDc hNw⟩ rfl rfl hl.1 rfl (lv_room (nbq rfl)) (qaa qfK 11 rfl) ⟨nbq rfl, nbq rfl⟩) hS (fun q _ h => hFc q h) hFc (fun r2 u t H1 locs ht hvm hw hB hz1 hk1 hS => ?_)
      obtain ⟨hP1, hK1, hD1⟩ := hB
      rw [ht] at hP1
      obtain ⟨hP, hD⟩ := qah (wr := []) (w1 := (qsb a0 jhY ji2 jlU jmo ja4 jaN jdj jkY jl7 jkn jjZ jhY cyI jiL ji2 cyI jjH jdj jj4 jlV jj4 cyI jkE)) (wn := (qsb a0 jhY ji2 jlU jmo ja4 jaN jdj jkY jl7 jkn jjZ jhY cyI jiL ji2 cyI jjH jdj jj4 jlV jj4 cyI jkE)) hP hD [0, 1, 2, 3, 4] [] hCc rfl (by decide +kernel) (by decide +kernel) rfl hk1 hFc hP1 hD1
      generalize H1 = H at hP hS ⊢
      refine lv_if_eq (tgt := 61) hx hb (qaa qfK 12 rfl) (by decide) (fun c3 => ?_) (fun c3 => ?_)
      · have hw := hw.1 c3
        exact qVd dC dI cyB cyI cyJ cyP a0 jhY ji2 jdj jj4 jlU jmo ja4 jkn jjZ jlV jaN jiL jjH jkE Q (qqT jaN jiL jjH jkE Q n) ih C0 _ _ _ jl7 jkY l1 l2 l3 hP hD hS (lv_sub hl [0, 1, 2, 3] rfl) hw
      · have hw := hw.2 c3
        refine lv_iload_n hx hb (qaa qfK 13 rfl) rfl (lv_at hl 2 rfl) ?_
        refine lv_iconst (v := 1) hx hb (qaa qfK 14 rfl) (by decide) ?_
        refine lv_iload_n hx hb (qaa qfK 15 rfl) rfl (lv_at hl 3 rfl) ?_
        refine lv_ishl hx hb (qaa qdX 0 rfl) ?_
        refine lv_ior hx hb (qaa qdX 1 rfl) ?_
        refine lv_topi (fun x4 ex4 => ?_)
        have hw := hw x4 ex4
        refine lv_istore_n (lv' := [(2, .int x4), (0, .ref a0), (1, .int l1), (3, .int l3)]) hx hb (qaa qdX 2 rfl) rfl hl (by decide) rfl (fun ls hl => ?_)
        refine lv_aload_n hx hb (qaa qdX 3 rfl) rfl (lv_at hl 1 rfl) ?_
        refine lv_aload_n hx hb (qaa qdX 4 rfl) rfl (lv_at hl 1 rfl) ?_
        refine va_get (D := (dC, dI)) (ci := 3) (v := .int jkY) (C := RX3) (T := TX3) (N := 11) hx hb hts qvu hown hK hP 0 rfl rfl 7 (by decide) (hts _ qIR) (fun _ h9 => h9) rfl (qaa qdX 5 rfl) ?_
        refine lv_if_ne (tgt := 44) hx hb (qaa qdX 6 rfl) (by decide) (fun c5 => ?_) (fun c5 => ?_)
        · have hw := hw.1 c5
          refine lv_aload_n hx hb (qaa qdX 13 rfl) rfl (lv_at hl 1 rfl) ?_
          refine va_get (D := (dC, dI)) (ci := 3) (v := .int jl7) (C := RX3) (T := TX3) (N := 11) hx hb hts qvu hown hK hP 0 rfl rfl 8 (by decide) (hts _ qSJ) (fun _ h9 => h9) rfl (qaa qdX 14 rfl) ?_
          exact qVN dC dI cyB cyI cyJ cyP a0 jhY ji2 jdj jj4 jlU jmo ja4 jkn jjZ jlV jaN jiL jjH jkE Q (qqT jaN jiL jjH jkE Q n) ih C0 _ _ _ jl7 jkY l1 x4 l3 jl7 hP hD hS (lv_sub hl [1, 2, 0, 3] rfl) hw
        · have hw := hw.2 c5
          refine lv_bipush (v := 10) hx hb (qaa qdX 7 rfl) (by decide) ?_
          refine lv_iload_n hx hb (qaa qdX 8 rfl) rfl (lv_at hl 2 rfl) ?_
          refine lv_imul hx hb (qaa qdX 9 rfl) ?_
          refine lv_topi (fun x6 ex6 => ?_)
          have hw := hw x6 ex6
          refine lv_iload_n hx hb (qaa qdX 10 rfl) rfl (lv_at hl 3 rfl) ?_
          refine lv_iadd hx hb (qaa qdX 11 rfl) ?_
          refine lv_topi (fun x7 ex7 => ?_)
          have hw := hw x7 ex7
          refine lv_goto (tgt := 48) hx hb (qaa qdX 12 rfl) (by decide) ?_
          exact qVN dC dI cyB cyI cyJ cyP a0 jhY ji2 jdj jj4 jlU jmo ja4 jkn jjZ jlV jaN jiL jjH jkE Q (qqT jaN jiL jjH jkE Q n) ih C0 _ _ _ jl7 jkY l1 x4 l3 x7 hP hD hS (lv_sub hl [1, 2, 0, 3] rfl) hw
set_option maxHeartbeats 4000000 in
set_option maxRecDepth 100000 in
theorem qaJc (l : Launch) (dC : Nat → ClassId) (dI : Nat → Nat → Nat) (cyB cyI cyJ cyP : ClassId) (a0 jhY ji2 jdj jj4 sz : Nat) (jlU jmo ja4 jkn jjZ jlV : Value) (jaN : Int32) (jiL jjH jkE : NI) (jl7 jkY p1 : Int32) {Q : Int32 → Int32 → Int32 → Prop} (hw : qTn jaN jiL jjH jkE jl7 jkY p1 Q) : Met l yX3_formsFor wsX3_formsFor ({ frames := 2, cells := 0, slots := 0, locals := 46 }) (va_Pc [.ref a0, .int p1] (cPc (dC, dI) (kT cyB cyI cyJ cyP) (qsb a0 jhY ji2 jlU jmo ja4 jaN jdj jkY jl7 jkn jjZ jhY cyI jiL ji2 cyI jjH jdj jj4 jlV jj4 cyI jkE) sz)) (va_Qi (fun (r : Int32) (u : Int32 × Int32) => Q r u.1 u.2) (cB (dC, dI) (kT cyB cyI cyJ cyP) (va_A (qsb a0 jhY ji2 jlU jmo ja4 jaN jdj jkY jl7 jkn jjZ jhY cyI jiL ji2 cyI jjH jdj jj4 jlV jj4 cyI jkE) sz) (fun u : Int32 × Int32 => ((qsb a0 jhY ji2 jlU jmo ja4 jaN jdj u.2 u.1 jkn jjZ jhY cyI jiL ji2 cyI jjH jdj jj4 jlV jj4 cyI jkE) : va_W))) (va_A (qsb a0 jhY ji2 jlU jmo ja4 jaN jdj jkY jl7 jkn jjZ jhY cyI jiL ji2 cyI jjH jdj jj4 jlV jj4 cyI jkE) sz)) 0 0 (va_A (qsb a0 jhY ji2 jlU jmo ja4 jaN jdj jkY jl7 jkn jjZ jhY cyI jiL ji2 cyI jjH jdj jj4 jlV jj4 cyI jkE) sz) := by
  refine Met.ofW (cc := cX3_formsFor) (maxL := 4) (ret := (some .int)) (by decide) rfl ?_
  intro p e s m args below meth c s₁ B hml hv
  obtain ⟨rfl, hsz, hP, hK, hD0, hNw⟩ := hv
  have hx := B.exec
  have hb := B.bytes
  have hr := B.returns
  have hts := atoms_spec (ws := wsX3_formsFor) B.pre
  have hown : s.vm.findClass RX3 = some m.cls := findClass_of_methodNamed B.named
  have hlocks := B.notSynchronized
  subst hsz
  have hD := hD0.self (sz := s.heap.size)
  generalize hAe : va_A (qsb a0 jhY ji2 jlU jmo ja4 jaN jdj jkY jl7 jkn jjZ jhY cyI jiL ji2 cyI jjH jdj jj4 jlV jj4 cyI jkE) s.heap.size = A at hD ⊢
  have hA : ∀ q : Nat, s.heap.size ≤ q → A q := fun q h => by rw [← hAe]; exact Or.inr h
  have hS : va_S A s.heap s.heap [] := va_S.rf
  have hP : va_P (dC, dI) vwCl (qsb a0 jhY ji2 jlU jmo ja4 jaN jdj jkY jl7 jkn jjZ jhY cyI jiL ji2 cyI jjH jdj jj4 jlV jj4 cyI jkE) s.heap := hP
  have hl := lv_entry ([.ref a0, .int p1]) (n := 4) (nbq rfl)
  rw [lg_entry_eq]
  generalize (lg_sl ([.ref a0, .int p1]) ++ List.replicate (4 - (lg_sl ([.ref a0, .int p1])).length) Slot.unset).toArray = ls at hl ⊢
  have hl : lv_has ls 4 [(0, .ref a0), (1, .int p1)] := hl
  have C0 : cfx p s m _ meth c cX3_formsFor (some .int) wsX3_formsFor RX3 4 A (dC, dI) (kT cyB cyI cyJ cyP) := ⟨hx, hb, hr, hts, hown, hlocks, hml, hA, hK, hNw⟩
  clear hAe
  obtain ⟨H, hH⟩ : ∃ H, H = s.heap := ⟨_, rfl⟩
  rw [← hH] at hP ⊢
  have hS : va_S A s.heap H [] := by rw [hH]; exact va_S.rf
  have hS := hS
  refine lv_iconst (v := 0) hx hb (qaa qfK 0 rfl) (by decide) ?_
  refine lv_istore_n (lv' := [(2, .int 0), (0, .ref a0), (1, .int p1)]) hx hb (qaa qfK 1 rfl) rfl hl (by decide) rfl (fun ls hl => ?_)
  refine lv_iconst (v := 0) hx hb (qaa qfK 2 rfl) (by decide) ?_
  refine lv_istore_n (lv' := [(3, .int 0), (2, .int 0), (0, .ref a0), (1, .int p1)]) hx hb (qaa qfK 3 rfl) rfl hl (by decide) rfl (fun ls hl => ?_)
  obtain ⟨n9, hw⟩ := hw
  exact qasB dC dI cyB cyI cyJ cyP a0 jhY ji2 jdj jj4 jlU jmo ja4 jkn jjZ jlV jaN jiL jjH jkE Q C0 n9 _ _ _ jl7 jkY p1 0 0 hP hD hS (lv_sub hl [2, 3, 1, 0] rfl) hw
theorem q2t : ∀ w ∈ u_ws RX1 TX1 4, w ∈ wsX3_settle := uiM qh2 qWg (by decide +kernel)
theorem q2R : ∀ w ∈ u_ws RX2 TX2 12, w ∈ wsX3_settle := uiM qh2 qLp (by decide +kernel)
theorem qqH : ∀ w ∈ u_ws RX3 TX3 11, w ∈ wsX3_settle := uiM qh2 euX3 (by decide +kernel)
theorem qauu : (.fieldLink RX3 15 "MarchHares$Fitting" "sits" "[I" : Cond) ∈ wsX3_settle := qh2 391 (by decide +kernel)
theorem qapL : (.fieldLink RX3 18 "MarchHares$Fitting" "fittingForms" "[I" : Cond) ∈ wsX3_settle := qh2 392 (by decide +kernel)
theorem qY4 : (.fieldLink RX3 24 "MarchHares$Days" "down" "LMarchHares$Down;" : Cond) ∈ wsX3_settle := qh2 3466 (by decide +kernel)
theorem qatq : (.fieldLink RX3 30 "MarchHares$Down" "hares" "I" : Cond) ∈ wsX3_settle := qh2 3467 (by decide +kernel)
theorem qYT : (.fieldLink RX3 36 "MarchHares$Fitting" "hares" "I" : Cond) ∈ wsX3_settle := qh2 3468 (by decide +kernel)
theorem qapB : (.fieldLink RX3 37 "MarchHares$Down" "forms" "I" : Cond) ∈ wsX3_settle := qh2 3469 (by decide +kernel)
theorem qZU : (.fieldLink RX3 40 "MarchHares$Fitting" "forms" "I" : Cond) ∈ wsX3_settle := qh2 3470 (by decide +kernel)
theorem qaqP : (.fieldLink RX3 41 "MarchHares$Fitting" "book" "LMarchHares$Book;" : Cond) ∈ wsX3_settle := qh2 3471 (by decide +kernel)
theorem qasb : (.fieldLink RX3 45 "MarchHares$Fitting" "many" "I" : Cond) ∈ wsX3_settle := qh2 3472 (by decide +kernel)
theorem qasA : (.fieldLink RX3 48 "MarchHares$Fitting" "first" "I" : Cond) ∈ wsX3_settle := qh2 3473 (by decide +kernel)
theorem qayc : (.fieldLink RX3 9 "MarchHares$Fitting" "seated" "[I" : Cond) ∈ wsX3_settle := qh2 390 (by decide +kernel)
set_option maxHeartbeats 4000000 in
set_option maxRecDepth 100000 in
theorem qYX {p : Program} {l : Launch} {e : Env} {s : State} {m : MethodId} {args : Array Value} {below : List Frame} {meth : Method} {c : Code} {A : Nat → Prop} (dC : Nat → ClassId) (dI : Nat → Nat → Nat) (cyB cyI cyJ cyP : ClassId) (a0 a1 a2 jjN jhY jjO ji2 jhn jm6 : Nat) (jmo jpg jkn jjZ jjP jn2 jm3 jm4 jky jkz jkA jkX jkd jkB jke jnl joz : Value) (jjm jh5 : Int32) (jkO jnQ : NI) (Q : Int32 → Int32 → Int32 → Int32 → NI → NI → NI → Prop) (K69 : Int32 → Int32 → Int32 → Int32 → NI → NI → NI → Int32 → Prop) (hK69 : ∀ (H : Heap) (locs : List Loc) (ls : Array Slot) (jaC jaN jkY jl7 : Int32) (jiL jjH jim : NI) (l3 : Int32), va_P (dC, dI) vwCl (qqs a0 jhY ji2 jhn jmo jaC jaN a2 jkY jl7 jkn jjZ a1 jjO jjP jjN jn2 jjN jm3 jm4 jky jkz jkA jkX jkd jkB jjm jh5 jke jnl jjO cyI jkO jhY cyI jiL ji2 cyI jjH a2 jm6 joz jm6 cyI jnQ jhn cyI jim) H → va_D A (qqs a0 jhY ji2 jhn jmo jaC jaN a2 jkY jl7 jkn jjZ a1 jjO jjP jjN jn2 jjN jm3 jm4 jky jkz jkA jkX jkd jkB jjm jh5 jke jnl jjO cyI jkO jhY cyI jiL ji2 cyI jjH a2 jm6 joz jm6 cyI jnQ jhn cyI jim) → va_S A s.heap H locs → lv_has ls 4 [(0, .ref a0), (1, .ref a1), (3, .int l3)] → K69 jaC jaN jkY jl7 jiL jjH jim l3 → W p l e (headSpec wsX3_settle ({ frames := 3, cells := 0, slots := 0, locals := 69 })).room s m args below meth c H locs 0 0 (MQ below (va_Qv (fun (u : Int32 × Int32 × Int32 × Int32 × NI × NI × NI) => Q u.1 u.2.1 u.2.2.1 u.2.2.2.1 u.2.2.2.2.1 u.2.2.2.2.2.1 u.2.2.2.2.2.2) (cB (dC, dI) (kT cyB cyI cyJ cyP) A (fun u : Int32 × Int32 × Int32 × Int32 × NI × NI × NI => ((qqs a0 jhY ji2 jhn jmo u.1 u.2.1 a2 u.2.2.1 u.2.2.2.1 jkn jjZ a1 jjO jjP jjN jn2 jjN jm3 jm4 jky jkz jkA jkX jkd jkB jjm jh5 jke jnl jjO cyI jkO jhY cyI u.2.2.2.2.1 ji2 cyI u.2.2.2.2.2.1 a2 jm6 joz jm6 cyI jnQ jhn cyI u.2.2.2.2.2.2) : va_W))) A) args s 0 0 A) (F0 m 69 ls [])) (C0 : cfx p s m args meth c cX3_settle none wsX3_settle RX3 4 A (dC, dI) (kT cyB cyI cyJ cyP)) : ∀ (H : Heap) (locs : List Loc) (ls : Array Slot) (jaC jaN jkY jl7 : Int32) (jiL jjH jim : NI) (l3 s1 s2 : Int32), va_P (dC, dI) vwCl (qqs a0 jhY ji2 jhn jmo jaC jaN a2 jkY jl7 jkn jjZ a1 jjO jjP jjN jn2 jjN jm3 jm4 jky jkz jkA jkX jkd jkB jjm jh5 jke jnl jjO cyI jkO jhY cyI jiL ji2 cyI jjH a2 jm6 joz jm6 cyI jnQ jhn cyI jim) H → va_D A (qqs a0 jhY ji2 jhn jmo jaC jaN a2 jkY jl7 jkn jjZ a1 jjO jjP jjN jn2 jjN jm3 jm4 jky jkz jkA jkX jkd jkB jjm jh5 jke jnl jjO cyI jkO jhY cyI jiL ji2 cyI jjH a2 jm6 joz jm6 cyI jnQ jhn cyI jim) → va_S A s.heap H locs → lv_has ls 4 [(0, .ref a0), (1, .ref a1), (3, .int l3)] → qM8 jjm jh5 jkO jnQ Q K69 jaC jaN jkY jl7 jiL jjH jim l3 s1 s2 → W p l e (headSpec wsX3_settle ({ frames := 3, cells := 0, slots := 0, locals := 69 })).room s m args below meth c H locs 0 0 (MQ below (va_Qv (fun (u : Int32 × Int32 × Int32 × Int32 × NI × NI × NI) => Q u.1 u.2.1 u.2.2.1 u.2.2.2.1 u.2.2.2.2.1 u.2.2.2.2.2.1 u.2.2.2.2.2.2) (cB (dC, dI) (kT cyB cyI cyJ cyP) A (fun u : Int32 × Int32 × Int32 × Int32 × NI × NI × NI => ((qqs a0 jhY ji2 jhn jmo u.1 u.2.1 a2 u.2.2.1 u.2.2.2.1 jkn jjZ a1 jjO jjP jjN jn2 jjN jm3 jm4 jky jkz jkA jkX jkd jkB jjm jh5 jke jnl jjO cyI jkO jhY cyI u.2.2.2.2.1 ji2 cyI u.2.2.2.2.2.1 a2 jm6 joz jm6 cyI jnQ jhn cyI u.2.2.2.2.2.2) : va_W))) A) args s 0 0 A) (F0 m 110 ls [.int s2, .int s1, .ref jhn]) := by
  obtain ⟨hx, hb, hr, hts, hown, hlocks, hml, hA, hK, hNw⟩ := id C0
  intro H locs ls jaC jaN jkY jl7 jiL jjH jim l3 s1 s2 hP hD hS hl hw
  obtain ⟨hi9, hw⟩ := hw
  refine va_iast hx hb hK hP hD hS 8 1 rfl rfl hi9 (qaa qgX 12 rfl) (fun H locs hP hD hS => ?_)
  obtain ⟨f14, ef14⟩ : ∃ y : NI, y = upd jim s1.toNatClampNeg s2 := ⟨_, rfl⟩
  have hw := hw f14 ef14
  have hP : va_P (dC, dI) vwCl (qqs a0 jhY ji2 jhn jmo jaC jaN a2 jkY jl7 jkn jjZ a1 jjO jjP jjN jn2 jjN jm3 jm4 jky jkz jkA jkX jkd jkB jjm jh5 jke jnl jjO cyI jkO jhY cyI jiL ji2 cyI jjH a2 jm6 joz jm6 cyI jnQ jhn cyI f14) H := by rw [ef14]; exact hP
  have hD : va_D A (qqs a0 jhY ji2 jhn jmo jaC jaN a2 jkY jl7 jkn jjZ a1 jjO jjP jjN jn2 jjN jm3 jm4 jky jkz jkA jkX jkd jkB jjm jh5 jke jnl jjO cyI jkO jhY cyI jiL ji2 cyI jjH a2 jm6 joz jm6 cyI jnQ jhn cyI f14) := by rw [ef14]; exact hD
  obtain ⟨x15, ex15⟩ : ∃ y : Int32, y = l3 + 1 := ⟨_, rfl⟩
  have hw := hw x15 ex15
  refine lv_iinc (v := x15) (lv' := [(3, .int x15), (0, .ref a0), (1, .ref a1)]) hx hb (qaa qgX 13 rfl) hl (k := 2) rfl (by rw [ex15]; rfl) (by decide) rfl (fun ls hl => ?_)
  refine lv_goto (tgt := 69) hx hb (qaa qgX 14 rfl) (by decide) ?_
  exact hK69 _ _ _ jaC jaN jkY jl7 jiL jjH f14 x15 hP hD hS (lv_sub hl [1, 2, 0] rfl) hw
set_option maxHeartbeats 4000000 in
set_option maxRecDepth 100000 in
theorem qawU {p : Program} {l : Launch} {e : Env} {s : State} {m : MethodId} {args : Array Value} {below : List Frame} {meth : Method} {c : Code} {A : Nat → Prop} (dC : Nat → ClassId) (dI : Nat → Nat → Nat) (cyB cyI cyJ cyP : ClassId) (a0 a1 a2 jjN jhY jjO ji2 jhn jm6 : Nat) (jmo jpg jkn jjZ jjP jn2 jm3 jm4 jky jkz jkA jkX jkd jkB jke jnl joz : Value) (jjm jh5 : Int32) (jkO jnQ : NI) (Q : Int32 → Int32 → Int32 → Int32 → NI → NI → NI → Prop) (C0 : cfx p s m args meth c cX3_settle none wsX3_settle RX3 4 A (dC, dI) (kT cyB cyI cyJ cyP)) : ∀ (n : Nat) (H : Heap) (locs : List Loc) (ls : Array Slot) (jaC jaN jkY jl7 : Int32) (jiL jjH jim : NI) (l3 : Int32), va_P (dC, dI) vwCl (qqs a0 jhY ji2 jhn jmo jaC jaN a2 jkY jl7 jkn jjZ a1 jjO jjP jjN jn2 jjN jm3 jm4 jky jkz jkA jkX jkd jkB jjm jh5 jke jnl jjO cyI jkO jhY cyI jiL ji2 cyI jjH a2 jm6 joz jm6 cyI jnQ jhn cyI jim) H → va_D A (qqs a0 jhY ji2 jhn jmo jaC jaN a2 jkY jl7 jkn jjZ a1 jjO jjP jjN jn2 jjN jm3 jm4 jky jkz jkA jkX jkd jkB jjm jh5 jke jnl jjO cyI jkO jhY cyI jiL ji2 cyI jjH a2 jm6 joz jm6 cyI jnQ jhn cyI jim) → va_S A s.heap H locs → lv_has ls 4 [(0, .ref a0), (1, .ref a1), (3, .int l3)] → qv9 jjm jh5 jkO jnQ Q n jaC jaN jkY jl7 jiL jjH jim l3 → W p l e (headSpec wsX3_settle ({ frames := 3, cells := 0, slots := 0, locals := 69 })).room s m args below meth c H locs 0 0 (MQ below (va_Qv (fun (u : Int32 × Int32 × Int32 × Int32 × NI × NI × NI) => Q u.1 u.2.1 u.2.2.1 u.2.2.2.1 u.2.2.2.2.1 u.2.2.2.2.2.1 u.2.2.2.2.2.2) (cB (dC, dI) (kT cyB cyI cyJ cyP) A (fun u : Int32 × Int32 × Int32 × Int32 × NI × NI × NI => ((qqs a0 jhY ji2 jhn jmo u.1 u.2.1 a2 u.2.2.1 u.2.2.2.1 jkn jjZ a1 jjO jjP jjN jn2 jjN jm3 jm4 jky jkz jkA jkX jkd jkB jjm jh5 jke jnl jjO cyI jkO jhY cyI u.2.2.2.2.1 ji2 cyI u.2.2.2.2.2.1 a2 jm6 joz jm6 cyI jnQ jhn cyI u.2.2.2.2.2.2) : va_W))) A) args s 0 0 A) (F0 m 69 ls []) := by
  obtain ⟨hx, hb, hr, hts, hown, hlocks, hml, hA, hK, hNw⟩ := id C0
  intro n
  induction n with
  | zero => intro H locs ls jaC jaN jkY jl7 jiL jjH jim l3 hP hD hS hl hw; exact False.elim hw
  | succ n ih =>
    intro H locs ls jaC jaN jkY jl7 jiL jjH jim l3 hP hD hS hl hw
    refine lv_iload_n hx hb (qaa qg1 5 rfl) rfl (lv_at hl 2 rfl) ?_
    refine lv_aload_n hx hb (qaa qg1 6 rfl) rfl (lv_at hl 0 rfl) ?_
    refine va_get (D := (dC, dI)) (ci := 3) (v := .int jaC) (C := RX3) (T := TX3) (N := 11) hx hb hts qqH hown hK hP 0 rfl rfl 4 (by decide) (hts _ qYT) (fun _ h9 => h9) rfl (qaa qg1 7 rfl) ?_
    refine lv_icmp_ge (tgt := 117) hx hb (qaa qg1 8 rfl) (by decide) (fun c6 => ?_) (fun c6 => ?_)
    · have hw := hw.1 c6
      exact ((W.vret hx hb hr (fun t ht hW => ⟨⟨(jaC, jaN, jkY, jl7, jiL, jjH, jim), rfl, hw, by rw [ht]; exact hP, va_K.moved hW.alike hK, hD⟩, hS.F ht⟩) hS.2.2 (qaa qgX 15 rfl)))
    · have hw := hw.2 c6
      refine lv_aload_n hx hb (qaa qg1 9 rfl) rfl (lv_at hl 0 rfl) ?_
      refine va_get (D := (dC, dI)) (ci := 3) (v := .ref ji2) (C := RX3) (T := TX3) (N := 11) hx hb hts qqH hown hK hP 0 rfl rfl 1 (by decide) (hts _ qauu) (fun _ h9 => h9) rfl (qaa qg1 10 rfl) ?_
      refine lv_iload_n hx hb (qaa qg1 11 rfl) rfl (lv_at hl 2 rfl) ?_
      refine lv_aload_n hx hb (qaa qg1 12 rfl) rfl (lv_at hl 1 rfl) ?_
      refine lv_iload_n hx hb (qaa qg1 13 rfl) rfl (lv_at hl 2 rfl) ?_
      obtain ⟨hCc, hPc, hDc, hFc⟩ := qac (ws' := (qaOb a1 jjO jjP jjN jn2 jjO cyI jkO)) hP hD hS hA [1, 3] (by decide +kernel) rfl
      refine va_calli (va_runV (As := [.int l3]) (rest := [.int l3, .ref ji2]) ⟨hx, hb, hml, hown, hts⟩ (qvw l dC dI cyB cyI cyJ cyP a1 jjO H.size (jjP) (.ref jjN) (jn2) jkO l3 hw) (cwV 1 hts gX3_settle_X1_sits rfl rfl rfl (by decide +kernel) ⟨nbq rfl, nbq rfl⟩) ⟨qab, va_recv (q := (RX1, TX1, 4)) hK hPc (ci := 1) (q0 := 0) rfl rfl, qae hPc hK hDc hNw⟩ rfl rfl hl.1 rfl (lv_room (nbq rfl)) (qaa qg1 14 rfl) ⟨nbq rfl, nbq rfl⟩) hS (fun q _ h => hFc q h) hFc (fun r7 u t H1 locs ht hvm hw hB hz1 hk1 hS => ?_)
      obtain ⟨hP1, hK1, hD1⟩ := hB
      rw [ht] at hP1
      obtain ⟨hP, hD⟩ := qad (wr := (qa6I a0 jhY ji2 jhn jmo jaC jaN a2 jkY jl7 jkn jjZ jjN jm3 jm4 jky jkz jkA jkX jkd jkB jjm jh5 jke jnl jhY cyI jiL ji2 cyI jjH a2 jm6 joz jm6 cyI jnQ jhn cyI jim)) (w1 := (qaOb a1 jjO jjP jjN jn2 jjO cyI jkO)) (wn := (qqs a0 jhY ji2 jhn jmo jaC jaN a2 jkY jl7 jkn jjZ a1 jjO jjP jjN jn2 jjN jm3 jm4 jky jkz jkA jkX jkd jkB jjm jh5 jke jnl jjO cyI jkO jhY cyI jiL ji2 cyI jjH a2 jm6 joz jm6 cyI jnQ jhn cyI jim)) hP hD [1, 3] [0, 2, 4, 5, 6, 7, 8] [0, 7, 1, 8, 2, 3, 4, 5, 6] hCc rfl (by decide +kernel) (by decide +kernel) (by decide +kernel) rfl hk1 hFc hP1 hD1
      generalize H1 = H at hP hS ⊢
      obtain ⟨hi9, hw⟩ := hw
      refine va_iast hx hb hK hP hD hS 5 1 rfl rfl hi9 (qaa qg1 15 rfl) (fun H locs hP hD hS => ?_)
      obtain ⟨f8, ef8⟩ : ∃ y : NI, y = upd jjH l3.toNatClampNeg r7 := ⟨_, rfl⟩
      have hw := hw f8 ef8
      have hP : va_P (dC, dI) vwCl (qqs a0 jhY ji2 jhn jmo jaC jaN a2 jkY jl7 jkn jjZ a1 jjO jjP jjN jn2 jjN jm3 jm4 jky jkz jkA jkX jkd jkB jjm jh5 jke jnl jjO cyI jkO jhY cyI jiL ji2 cyI f8 a2 jm6 joz jm6 cyI jnQ jhn cyI jim) H := by rw [ef8]; exact hP
      have hD : va_D A (qqs a0 jhY ji2 jhn jmo jaC jaN a2 jkY jl7 jkn jjZ a1 jjO jjP jjN jn2 jjN jm3 jm4 jky jkz jkA jkX jkd jkB jjm jh5 jke jnl jjO cyI jkO jhY cyI jiL ji2 cyI f8 a2 jm6 joz jm6 cyI jnQ jhn cyI jim) := by rw [ef8]; exact hD
      refine lv_aload_n hx hb (qaa qgX 0 rfl) rfl (lv_at hl 0 rfl) ?_
      refine va_get (D := (dC, dI)) (ci := 3) (v := .ref jhn) (C := RX3) (T := TX3) (N := 11) hx hb hts qqH hown hK hP 0 rfl rfl 2 (by decide) (hts _ qapL) (fun _ h9 => h9) rfl (qaa qgX 1 rfl) ?_
      refine lv_iload_n hx hb (qaa qgX 2 rfl) rfl (lv_at hl 2 rfl) ?_
      refine lv_aload_n hx hb (qaa qgX 3 rfl) rfl (lv_at hl 1 rfl) ?_
      refine lv_iload_n hx hb (qaa qgX 4 rfl) rfl (lv_at hl 2 rfl) ?_
      obtain ⟨hCc, hPc, hDc, hFc⟩ := qac (ws' := (qaOb a1 jjO jjP jjN jn2 jjO cyI jkO)) hP hD hS hA [1, 3] (by decide +kernel) rfl
      refine va_calli (va_runV (As := [.int l3]) (rest := [.int l3, .ref jhn]) ⟨hx, hb, hml, hown, hts⟩ (qia l dC dI cyB cyI cyJ cyP a1 jjO H.size (jjP) (.ref jjN) (jn2) jkO l3 hw) (cwV 1 hts gX3_settle_X1_isCaught rfl rfl rfl (by decide +kernel) ⟨nbq rfl, nbq rfl⟩) ⟨qab, va_recv (q := (RX1, TX1, 4)) hK hPc (ci := 1) (q0 := 0) rfl rfl, qae hPc hK hDc hNw⟩ rfl rfl hl.1 rfl (lv_room (nbq rfl)) (qaa qgX 5 rfl) ⟨nbq rfl, nbq rfl⟩) hS (fun q _ h => hFc q h) hFc (fun r9 u t H1 locs ht hvm hw hB hz1 hk1 hS => ?_)
      obtain ⟨hP1, hK1, hD1⟩ := hB
      rw [ht] at hP1
      obtain ⟨hP, hD⟩ := qad (wr := (qa6I a0 jhY ji2 jhn jmo jaC jaN a2 jkY jl7 jkn jjZ jjN jm3 jm4 jky jkz jkA jkX jkd jkB jjm jh5 jke jnl jhY cyI jiL ji2 cyI f8 a2 jm6 joz jm6 cyI jnQ jhn cyI jim)) (w1 := (qaOb a1 jjO jjP jjN jn2 jjO cyI jkO)) (wn := (qqs a0 jhY ji2 jhn jmo jaC jaN a2 jkY jl7 jkn jjZ a1 jjO jjP jjN jn2 jjN jm3 jm4 jky jkz jkA jkX jkd jkB jjm jh5 jke jnl jjO cyI jkO jhY cyI jiL ji2 cyI f8 a2 jm6 joz jm6 cyI jnQ jhn cyI jim)) hP hD [1, 3] [0, 2, 4, 5, 6, 7, 8] [0, 7, 1, 8, 2, 3, 4, 5, 6] hCc rfl (by decide +kernel) (by decide +kernel) (by decide +kernel) rfl hk1 hFc hP1 hD1
      generalize H1 = H at hP hS ⊢
      refine lv_if_eq (tgt := 105) hx hb (qaa qgX 6 rfl) (by decide) (fun c10 => ?_) (fun c10 => ?_)
      · have hw := hw.1 c10
        refine lv_aload_n hx hb (qaa qgX 9 rfl) rfl (lv_at hl 0 rfl) ?_
        refine lv_iload_n hx hb (qaa qgX 10 rfl) rfl (lv_at hl 2 rfl) ?_
        obtain ⟨hCc, hPc, hDc, hFc⟩ := qac (ws' := (qa9E a0 jhY ji2 jhn jmo jaC jaN a2 jkY jl7 jkn jjZ jhY cyI jiL ji2 cyI f8 a2 jm6 joz jm6 cyI jnQ)) hP hD hS hA [0, 4, 5, 6, 7] (by decide +kernel) rfl
        refine va_calli (va_runV (As := [.int l3]) (rest := [.int l3, .ref jhn]) ⟨hx, hb, hml, hown, hts⟩ (qaJc l dC dI cyB cyI cyJ cyP a0 jhY ji2 a2 jm6 H.size (.ref jhn) (jmo) (.int jaC) (jkn) (jjZ) (joz) jaN jiL f8 jnQ jl7 jkY l3 hw) (cwV 1 hts gX3_settle_X3_formsFor rfl rfl rfl (by decide +kernel) ⟨nbq rfl, nbq rfl⟩) ⟨qab, va_recv (q := (RX3, TX3, 11)) hK hPc (ci := 3) (q0 := 0) rfl rfl, qae hPc hK hDc hNw⟩ rfl rfl hl.1 rfl (lv_room (nbq rfl)) (qaa qgX 11 rfl) ⟨nbq rfl, nbq rfl⟩) hS (fun q _ h => hFc q h) hFc (fun r13 u t H1 locs ht hvm hw hB hz1 hk1 hS => ?_)
        obtain ⟨x11, x12⟩ := u
        obtain ⟨hP1, hK1, hD1⟩ := hB
        rw [ht] at hP1
        obtain ⟨hP, hD⟩ := qad (wr := [(a1, .inr (1, [.ref jjO, jjP, .ref jjN, jn2])), (jjN, .inr (2, [jm3, jm4, jky, jkz, jkA, jkX, jkd, jkB, .int jjm, .int jh5, jke, jnl])), (jjO, .inl (cyI, 64, .inl jkO)), (jhn, .inl (cyI, 6, .inl jim))]) (w1 := (qa9E a0 jhY ji2 jhn jmo jaC jaN a2 x12 x11 jkn jjZ jhY cyI jiL ji2 cyI f8 a2 jm6 joz jm6 cyI jnQ)) (wn := (qqs a0 jhY ji2 jhn jmo jaC jaN a2 x12 x11 jkn jjZ a1 jjO jjP jjN jn2 jjN jm3 jm4 jky jkz jkA jkX jkd jkB jjm jh5 jke jnl jjO cyI jkO jhY cyI jiL ji2 cyI f8 a2 jm6 joz jm6 cyI jnQ jhn cyI jim)) hP hD [0, 4, 5, 6, 7] [1, 2, 3, 8] [4, 0, 1, 2, 5, 6, 7, 8, 3] hCc rfl (by decide +kernel) (by decide +kernel) (by decide +kernel) rfl hk1 hFc hP1 hD1
        generalize H1 = H at hP hS ⊢
        exact qYX dC dI cyB cyI cyJ cyP a0 a1 a2 jjN jhY jjO ji2 jhn jm6 jmo jpg jkn jjZ jjP jn2 jm3 jm4 jky jkz jkA jkX jkd jkB jke jnl joz jjm jh5 jkO jnQ Q (qv9 jjm jh5 jkO jnQ Q n) ih C0 _ _ _ jaC jaN x12 x11 jiL f8 jim l3 l3 r13 hP hD hS (lv_sub hl [0, 1, 2] rfl) hw
      · have hw := hw.2 c10
        refine lv_iconst (v := 0) hx hb (qaa qgX 7 rfl) (by decide) ?_
        refine lv_goto (tgt := 110) hx hb (qaa qgX 8 rfl) (by decide) ?_
        exact qYX dC dI cyB cyI cyJ cyP a0 a1 a2 jjN jhY jjO ji2 jhn jm6 jmo jpg jkn jjZ jjP jn2 jm3 jm4 jky jkz jkA jkX jkd jkB jke jnl joz jjm jh5 jkO jnQ Q (qv9 jjm jh5 jkO jnQ Q n) ih C0 _ _ _ jaC jaN jkY jl7 jiL f8 jim l3 l3 0 hP hD hS (lv_sub hl [0, 1, 2] rfl) hw
set_option maxHeartbeats 4000000 in
set_option maxRecDepth 100000 in
theorem qaEv {p : Program} {l : Launch} {e : Env} {s : State} {m : MethodId} {args : Array Value} {below : List Frame} {meth : Method} {c : Code} {A : Nat → Prop} (dC : Nat → ClassId) (dI : Nat → Nat → Nat) (cyB cyI cyJ cyP : ClassId) (a0 a1 a2 jjN jhY jjO ji2 jhn jm6 : Nat) (jmo jpg jkn jjZ jjP jn2 jm3 jm4 jky jkz jkA jkX jkd jkB jke jnl joz : Value) (jjm jh5 : Int32) (jkO jnQ : NI) (Q : Int32 → Int32 → Int32 → Int32 → NI → NI → NI → Prop) (C0 : cfx p s m args meth c cX3_settle none wsX3_settle RX3 4 A (dC, dI) (kT cyB cyI cyJ cyP)) : ∀ (n : Nat) (H : Heap) (locs : List Loc) (ls : Array Slot) (jaC jaN jkY jl7 : Int32) (jiL jjH jim : NI) (l3 : Int32), va_P (dC, dI) vwCl (qqs a0 jhY ji2 jhn jmo jaC jaN a2 jkY jl7 jkn jjZ a1 jjO jjP jjN jn2 jjN jm3 jm4 jky jkz jkA jkX jkd jkB jjm jh5 jke jnl jjO cyI jkO jhY cyI jiL ji2 cyI jjH a2 jm6 joz jm6 cyI jnQ jhn cyI jim) H → va_D A (qqs a0 jhY ji2 jhn jmo jaC jaN a2 jkY jl7 jkn jjZ a1 jjO jjP jjN jn2 jjN jm3 jm4 jky jkz jkA jkX jkd jkB jjm jh5 jke jnl jjO cyI jkO jhY cyI jiL ji2 cyI jjH a2 jm6 joz jm6 cyI jnQ jhn cyI jim) → va_S A s.heap H locs → lv_has ls 4 [(0, .ref a0), (1, .ref a1), (3, .int l3)] → qIB jjm jh5 jkO jnQ Q n jaC jaN jkY jl7 jiL jjH jim l3 → W p l e (headSpec wsX3_settle ({ frames := 3, cells := 0, slots := 0, locals := 69 })).room s m args below meth c H locs 0 0 (MQ below (va_Qv (fun (u : Int32 × Int32 × Int32 × Int32 × NI × NI × NI) => Q u.1 u.2.1 u.2.2.1 u.2.2.2.1 u.2.2.2.2.1 u.2.2.2.2.2.1 u.2.2.2.2.2.2) (cB (dC, dI) (kT cyB cyI cyJ cyP) A (fun u : Int32 × Int32 × Int32 × Int32 × NI × NI × NI => ((qqs a0 jhY ji2 jhn jmo u.1 u.2.1 a2 u.2.2.1 u.2.2.2.1 jkn jjZ a1 jjO jjP jjN jn2 jjN jm3 jm4 jky jkz jkA jkX jkd jkB jjm jh5 jke jnl jjO cyI jkO jhY cyI u.2.2.2.2.1 ji2 cyI u.2.2.2.2.2.1 a2 jm6 joz jm6 cyI jnQ jhn cyI u.2.2.2.2.2.2) : va_W))) A) args s 0 0 A) (F0 m 39 ls []) := by
  obtain ⟨hx, hb, hr, hts, hown, hlocks, hml, hA, hK, hNw⟩ := id C0
  intro n
  induction n with
  | zero => intro H locs ls jaC jaN jkY jl7 jiL jjH jim l3 hP hD hS hl hw; exact False.elim hw
  | succ n ih =>
    intro H locs ls jaC jaN jkY jl7 jiL jjH jim l3 hP hD hS hl hw
    refine lv_iload_n hx hb (qaa qhL 5 rfl) rfl (lv_at hl 2 rfl) ?_
    refine lv_aload_n hx hb (qaa qhL 6 rfl) rfl (lv_at hl 0 rfl) ?_
    refine va_get (D := (dC, dI)) (ci := 3) (v := .int jaN) (C := RX3) (T := TX3) (N := 11) hx hb hts qqH hown hK hP 0 rfl rfl 5 (by decide) (hts _ qZU) (fun _ h9 => h9) rfl (qaa qhL 7 rfl) ?_
    refine lv_icmp_ge (tgt := 67) hx hb (qaa qhL 8 rfl) (by decide) (fun c1 => ?_) (fun c1 => ?_)
    · have hw := hw.1 c1
      refine lv_iconst (v := 0) hx hb (qaa qg1 3 rfl) (by decide) ?_
      refine lv_istore_n (lv' := [(3, .int 0), (0, .ref a0), (1, .ref a1)]) hx hb (qaa qg1 4 rfl) rfl hl (by decide) rfl (fun ls hl => ?_)
      obtain ⟨n9, hw⟩ := hw
      exact qawU dC dI cyB cyI cyJ cyP a0 a1 a2 jjN jhY jjO ji2 jhn jm6 jmo jpg jkn jjZ jjP jn2 jm3 jm4 jky jkz jkA jkX jkd jkB jke jnl joz jjm jh5 jkO jnQ Q C0 n9 _ _ _ jaC jaN jkY jl7 jiL jjH jim 0 hP hD hS (lv_sub hl [1, 2, 0] rfl) hw
    · have hw := hw.2 c1
      refine lv_aload_n hx hb (qaa qhL 9 rfl) rfl (lv_at hl 0 rfl) ?_
      refine va_get (D := (dC, dI)) (ci := 3) (v := .ref jhY) (C := RX3) (T := TX3) (N := 11) hx hb hts qqH hown hK hP 0 rfl rfl 0 (by decide) (hts _ qayc) (fun _ h9 => h9) rfl (qaa qhL 10 rfl) ?_
      refine lv_iload_n hx hb (qaa qhL 11 rfl) rfl (lv_at hl 2 rfl) ?_
      refine lv_aload_n hx hb (qaa qhL 12 rfl) rfl (lv_at hl 1 rfl) ?_
      refine lv_iload_n hx hb (qaa qhL 13 rfl) rfl (lv_at hl 2 rfl) ?_
      obtain ⟨hCc, hPc, hDc, hFc⟩ := qac (ws' := (qa5H a1 jjO jjP jjN jn2 jjN jm3 jm4 jky jkz jkA jkX jkd jkB jjm jh5 jke jnl jjO cyI jkO)) hP hD hS hA [1, 2, 3] (by decide +kernel) rfl
      refine va_calli (va_runV (As := [.int l3]) (rest := [.int l3, .ref jhY]) ⟨hx, hb, hml, hown, hts⟩ (qTq l dC dI cyB cyI cyJ cyP a1 jjN jjO H.size (jjP) (jn2) (jm3) (jm4) (jky) (jkz) (jkA) (jkX) (jkd) (jkB) (.int jjm) (jke) (jnl) jh5 jkO l3 hw) (cwV 1 hts gX3_settle_X1_seatedIn rfl rfl rfl (by decide +kernel) ⟨nbq rfl, nbq rfl⟩) ⟨qab, va_recv (q := (RX1, TX1, 4)) hK hPc (ci := 1) (q0 := 0) rfl rfl, qae hPc hK hDc hNw⟩ rfl rfl hl.1 rfl (lv_room (nbq rfl)) (qaa qhL 14 rfl) ⟨nbq rfl, nbq rfl⟩) hS (fun q _ h => hFc q h) hFc (fun r2 u t H1 locs ht hvm hw hB hz1 hk1 hS => ?_)
      obtain ⟨hP1, hK1, hD1⟩ := hB
      rw [ht] at hP1
      obtain ⟨hP, hD⟩ := qad (wr := [(a0, .inr (3, [.ref jhY, .ref ji2, .ref jhn, jmo, .int jaC, .int jaN, .ref a2, .int jkY, .int jl7, jkn, jjZ])), (jhY, .inl (cyI, 8, .inl jiL)), (ji2, .inl (cyI, 6, .inl jjH)), (a2, .inr (0, [.ref jm6, joz])), (jm6, .inl (cyI, 8, .inl jnQ)), (jhn, .inl (cyI, 6, .inl jim))]) (w1 := (qa5H a1 jjO jjP jjN jn2 jjN jm3 jm4 jky jkz jkA jkX jkd jkB jjm jh5 jke jnl jjO cyI jkO)) (wn := (qqs a0 jhY ji2 jhn jmo jaC jaN a2 jkY jl7 jkn jjZ a1 jjO jjP jjN jn2 jjN jm3 jm4 jky jkz jkA jkX jkd jkB jjm jh5 jke jnl jjO cyI jkO jhY cyI jiL ji2 cyI jjH a2 jm6 joz jm6 cyI jnQ jhn cyI jim)) hP hD [1, 2, 3] [0, 4, 5, 6, 7, 8] [0, 6, 7, 8, 1, 2, 3, 4, 5] hCc rfl (by decide +kernel) (by decide +kernel) (by decide +kernel) rfl hk1 hFc hP1 hD1
      generalize H1 = H at hP hS ⊢
      obtain ⟨hCc, hPc, hDc, hFc⟩ := qac (ws' := []) hP hD hS hA [] (by decide +kernel) rfl
      refine va_calli (va_runS (As := [.int r2]) (rest := [.int l3, .ref jhY]) ⟨hx, hb, hml, hown, hts⟩ (qx2 l dC dI cyB cyI cyJ cyP H.size r2 hw) (va_cwS 1 hts gX3_settle_J6_bitCount_0f7a4 rfl rfl rfl (by decide +kernel) ⟨nbq rfl, nbq rfl⟩) ⟨qab, qae hPc hK hDc hNw⟩ rfl rfl hl.1 rfl (lv_room (nbq rfl)) (qaa qhL 15 rfl) ⟨nbq rfl, nbq rfl⟩) hS (fun q _ h => hFc q h) hFc (fun r3 u t H1 locs ht hvm hw hB hz1 hk1 hS => ?_)
      obtain ⟨hP1, hK1, hD1⟩ := hB
      rw [ht] at hP1
      obtain ⟨hP, hD⟩ := qah (wr := (qqs a0 jhY ji2 jhn jmo jaC jaN a2 jkY jl7 jkn jjZ a1 jjO jjP jjN jn2 jjN jm3 jm4 jky jkz jkA jkX jkd jkB jjm jh5 jke jnl jjO cyI jkO jhY cyI jiL ji2 cyI jjH a2 jm6 joz jm6 cyI jnQ jhn cyI jim)) (w1 := []) (wn := (qqs a0 jhY ji2 jhn jmo jaC jaN a2 jkY jl7 jkn jjZ a1 jjO jjP jjN jn2 jjN jm3 jm4 jky jkz jkA jkX jkd jkB jjm jh5 jke jnl jjO cyI jkO jhY cyI jiL ji2 cyI jjH a2 jm6 joz jm6 cyI jnQ jhn cyI jim)) hP hD [] [0, 1, 2, 3, 4, 5, 6, 7, 8] hCc rfl (by decide +kernel) (by decide +kernel) rfl hk1 hFc hP1 hD1
      generalize H1 = H at hP hS ⊢
      obtain ⟨hi9, hw⟩ := hw
      refine va_iast hx hb hK hP hD hS 4 1 rfl rfl hi9 (qaa qg1 0 rfl) (fun H locs hP hD hS => ?_)
      obtain ⟨f4, ef4⟩ : ∃ y : NI, y = upd jiL l3.toNatClampNeg r3 := ⟨_, rfl⟩
      have hw := hw f4 ef4
      have hP : va_P (dC, dI) vwCl (qqs a0 jhY ji2 jhn jmo jaC jaN a2 jkY jl7 jkn jjZ a1 jjO jjP jjN jn2 jjN jm3 jm4 jky jkz jkA jkX jkd jkB jjm jh5 jke jnl jjO cyI jkO jhY cyI f4 ji2 cyI jjH a2 jm6 joz jm6 cyI jnQ jhn cyI jim) H := by rw [ef4]; exact hP
      have hD : va_D A (qqs a0 jhY ji2 jhn jmo jaC jaN a2 jkY jl7 jkn jjZ a1 jjO jjP jjN jn2 jjN jm3 jm4 jky jkz jkA jkX jkd jkB jjm jh5 jke jnl jjO cyI jkO jhY cyI f4 ji2 cyI jjH a2 jm6 joz jm6 cyI jnQ jhn cyI jim) := by rw [ef4]; exact hD
      obtain ⟨x5, ex5⟩ : ∃ y : Int32, y = l3 + 1 := ⟨_, rfl⟩
      have hw := hw x5 ex5
      refine lv_iinc (v := x5) (lv' := [(3, .int x5), (0, .ref a0), (1, .ref a1)]) hx hb (qaa qg1 1 rfl) hl (k := 2) rfl (by rw [ex5]; rfl) (by decide) rfl (fun ls hl => ?_)
      refine lv_goto (tgt := 39) hx hb (qaa qg1 2 rfl) (by decide) ?_
      exact ih _ _ _ jaC jaN jkY jl7 f4 jjH jim x5 hP hD hS (lv_sub hl [1, 2, 0] rfl) hw
set_option maxHeartbeats 4000000 in
set_option maxRecDepth 100000 in
theorem qan8 (l : Launch) (dC : Nat → ClassId) (dI : Nat → Nat → Nat) (cyB cyI cyJ cyP : ClassId) (a0 a1 a2 jjN jhY jjO ji2 jhn jm6 sz : Nat) (jmo jpg jkn jjZ jjP jn2 jm3 jm4 jky jkz jkA jkX jkd jkB jke jnl joz : Value) (jjm jh5 : Int32) (jkO jnQ : NI) (jaC jaN jkY jl7 : Int32) (jiL jjH jim : NI) {Q : Int32 → Int32 → Int32 → Int32 → NI → NI → NI → Prop} (hw : qRR jjm jh5 jkO jnQ jaC jaN jkY jl7 jiL jjH jim Q) : Met l yX3_settle wsX3_settle ({ frames := 3, cells := 0, slots := 0, locals := 69 }) (va_Pc [.ref a0, .ref a1, .ref a2] (cPc (dC, dI) (kT cyB cyI cyJ cyP) (qJE a0 jhY ji2 jhn jmo jaC jaN jpg jkY jl7 jkn jjZ a1 jjO jjP jjN jn2 jjN jm3 jm4 jky jkz jkA jkX jkd jkB jjm jh5 jke jnl jjO cyI jkO jhY cyI jiL ji2 cyI jjH a2 jm6 joz jm6 cyI jnQ jhn cyI jim) sz)) (va_Qv (fun (u : Int32 × Int32 × Int32 × Int32 × NI × NI × NI) => Q u.1 u.2.1 u.2.2.1 u.2.2.2.1 u.2.2.2.2.1 u.2.2.2.2.2.1 u.2.2.2.2.2.2) (cB (dC, dI) (kT cyB cyI cyJ cyP) (va_A (qJE a0 jhY ji2 jhn jmo jaC jaN jpg jkY jl7 jkn jjZ a1 jjO jjP jjN jn2 jjN jm3 jm4 jky jkz jkA jkX jkd jkB jjm jh5 jke jnl jjO cyI jkO jhY cyI jiL ji2 cyI jjH a2 jm6 joz jm6 cyI jnQ jhn cyI jim) sz) (fun u : Int32 × Int32 × Int32 × Int32 × NI × NI × NI => ((qqs a0 jhY ji2 jhn jmo u.1 u.2.1 a2 u.2.2.1 u.2.2.2.1 jkn jjZ a1 jjO jjP jjN jn2 jjN jm3 jm4 jky jkz jkA jkX jkd jkB jjm jh5 jke jnl jjO cyI jkO jhY cyI u.2.2.2.2.1 ji2 cyI u.2.2.2.2.2.1 a2 jm6 joz jm6 cyI jnQ jhn cyI u.2.2.2.2.2.2) : va_W))) (va_A (qJE a0 jhY ji2 jhn jmo jaC jaN jpg jkY jl7 jkn jjZ a1 jjO jjP jjN jn2 jjN jm3 jm4 jky jkz jkA jkX jkd jkB jjm jh5 jke jnl jjO cyI jkO jhY cyI jiL ji2 cyI jjH a2 jm6 joz jm6 cyI jnQ jhn cyI jim) sz)) 0 0 (va_A (qJE a0 jhY ji2 jhn jmo jaC jaN jpg jkY jl7 jkn jjZ a1 jjO jjP jjN jn2 jjN jm3 jm4 jky jkz jkA jkX jkd jkB jjm jh5 jke jnl jjO cyI jkO jhY cyI jiL ji2 cyI jjH a2 jm6 joz jm6 cyI jnQ jhn cyI jim) sz) := by
  refine Met.ofW (cc := cX3_settle) (maxL := 4) (ret := none) (by decide) rfl ?_
  intro p e s m args below meth c s₁ B hml hv
  obtain ⟨rfl, hsz, hP, hK, hD0, hNw⟩ := hv
  have hx := B.exec
  have hb := B.bytes
  have hr := B.returns
  have hts := atoms_spec (ws := wsX3_settle) B.pre
  have hown : s.vm.findClass RX3 = some m.cls := findClass_of_methodNamed B.named
  have hlocks := B.notSynchronized
  subst hsz
  have hD := hD0.self (sz := s.heap.size)
  generalize hAe : va_A (qJE a0 jhY ji2 jhn jmo jaC jaN jpg jkY jl7 jkn jjZ a1 jjO jjP jjN jn2 jjN jm3 jm4 jky jkz jkA jkX jkd jkB jjm jh5 jke jnl jjO cyI jkO jhY cyI jiL ji2 cyI jjH a2 jm6 joz jm6 cyI jnQ jhn cyI jim) s.heap.size = A at hD ⊢
  have hA : ∀ q : Nat, s.heap.size ≤ q → A q := fun q h => by rw [← hAe]; exact Or.inr h
  have hS : va_S A s.heap s.heap [] := va_S.rf
  have hP : va_P (dC, dI) vwCl (qJE a0 jhY ji2 jhn jmo jaC jaN jpg jkY jl7 jkn jjZ a1 jjO jjP jjN jn2 jjN jm3 jm4 jky jkz jkA jkX jkd jkB jjm jh5 jke jnl jjO cyI jkO jhY cyI jiL ji2 cyI jjH a2 jm6 joz jm6 cyI jnQ jhn cyI jim) s.heap := hP
  have hl := lv_entry ([.ref a0, .ref a1, .ref a2]) (n := 4) (nbq rfl)
  rw [lg_entry_eq]
  generalize (lg_sl ([.ref a0, .ref a1, .ref a2]) ++ List.replicate (4 - (lg_sl ([.ref a0, .ref a1, .ref a2])).length) Slot.unset).toArray = ls at hl ⊢
  have hl : lv_has ls 4 [(0, .ref a0), (1, .ref a1), (2, .ref a2)] := hl
  have C0 : cfx p s m _ meth c cX3_settle none wsX3_settle RX3 4 A (dC, dI) (kT cyB cyI cyJ cyP) := ⟨hx, hb, hr, hts, hown, hlocks, hml, hA, hK, hNw⟩
  clear hAe
  obtain ⟨H, hH⟩ : ∃ H, H = s.heap := ⟨_, rfl⟩
  rw [← hH] at hP ⊢
  have hS : va_S A s.heap H [] := by rw [hH]; exact va_S.rf
  have hS := hS
  refine lv_aload_n hx hb (qaa qjo 0 rfl) rfl (lv_at hl 0 rfl) ?_
  refine lv_aload_n hx hb (qaa qjo 1 rfl) rfl (lv_at hl 1 rfl) ?_
  refine va_get (D := (dC, dI)) (ci := 1) (v := .ref jjN) (C := RX1) (T := TX1) (N := 4) hx hb hts q2t hown hK hP 1 rfl rfl 2 (by decide) (hts _ qY4) (fun _ h9 => h9) rfl (qaa qjo 2 rfl) ?_
  refine va_get (D := (dC, dI)) (ci := 2) (v := .int jh5) (C := RX2) (T := TX2) (N := 12) hx hb hts q2R hown hK hP 2 rfl rfl 9 (by decide) (hts _ qatq) (fun _ h9 => h9) rfl (qaa qjo 3 rfl) ?_
  refine va_put (D := (dC, dI)) (ci := 3) (v := .int jh5) (ty := .int) (C := RX3) (T := TX3) (N := 11) hx hb hts qqH tyX3 tyX3_ok nmX3 hown hK hP hD hS 0 rfl rfl 4 (by decide) (hts _ qYT) (fun _ h9 => h9) rfl (by decide +kernel) rfl rfl (nbq rfl) (qaa qjo 4 rfl) (fun H locs hP hD hS => ?_)
  have hP : va_P (dC, dI) vwCl (qJE a0 jhY ji2 jhn jmo jh5 jaN jpg jkY jl7 jkn jjZ a1 jjO jjP jjN jn2 jjN jm3 jm4 jky jkz jkA jkX jkd jkB jjm jh5 jke jnl jjO cyI jkO jhY cyI jiL ji2 cyI jjH a2 jm6 joz jm6 cyI jnQ jhn cyI jim) H := hP
  have hD : va_D A (qJE a0 jhY ji2 jhn jmo jh5 jaN jpg jkY jl7 jkn jjZ a1 jjO jjP jjN jn2 jjN jm3 jm4 jky jkz jkA jkX jkd jkB jjm jh5 jke jnl jjO cyI jkO jhY cyI jiL ji2 cyI jjH a2 jm6 joz jm6 cyI jnQ jhn cyI jim) := hD
  refine lv_aload_n hx hb (qaa qjo 5 rfl) rfl (lv_at hl 0 rfl) ?_
  refine lv_aload_n hx hb (qaa qjo 6 rfl) rfl (lv_at hl 1 rfl) ?_
  refine va_get (D := (dC, dI)) (ci := 1) (v := .ref jjN) (C := RX1) (T := TX1) (N := 4) hx hb hts q2t hown hK hP 1 rfl rfl 2 (by decide) (hts _ qY4) (fun _ h9 => h9) rfl (qaa qjo 7 rfl) ?_
  refine va_get (D := (dC, dI)) (ci := 2) (v := .int jjm) (C := RX2) (T := TX2) (N := 12) hx hb hts q2R hown hK hP 2 rfl rfl 8 (by decide) (hts _ qapB) (fun _ h9 => h9) rfl (qaa qjo 8 rfl) ?_
  refine va_put (D := (dC, dI)) (ci := 3) (v := .int jjm) (ty := .int) (C := RX3) (T := TX3) (N := 11) hx hb hts qqH tyX3 tyX3_ok nmX3 hown hK hP hD hS 0 rfl rfl 5 (by decide) (hts _ qZU) (fun _ h9 => h9) rfl (by decide +kernel) rfl rfl (nbq rfl) (qaa qjo 9 rfl) (fun H locs hP hD hS => ?_)
  have hP : va_P (dC, dI) vwCl (qJE a0 jhY ji2 jhn jmo jh5 jjm jpg jkY jl7 jkn jjZ a1 jjO jjP jjN jn2 jjN jm3 jm4 jky jkz jkA jkX jkd jkB jjm jh5 jke jnl jjO cyI jkO jhY cyI jiL ji2 cyI jjH a2 jm6 joz jm6 cyI jnQ jhn cyI jim) H := hP
  have hD : va_D A (qJE a0 jhY ji2 jhn jmo jh5 jjm jpg jkY jl7 jkn jjZ a1 jjO jjP jjN jn2 jjN jm3 jm4 jky jkz jkA jkX jkd jkB jjm jh5 jke jnl jjO cyI jkO jhY cyI jiL ji2 cyI jjH a2 jm6 joz jm6 cyI jnQ jhn cyI jim) := hD
  refine lv_aload_n hx hb (qaa qjo 10 rfl) rfl (lv_at hl 0 rfl) ?_
  refine lv_aload_n hx hb (qaa qjo 11 rfl) rfl (lv_at hl 2 rfl) ?_
  refine va_put (D := (dC, dI)) (ci := 3) (v := .ref a2) (ty := .object "MarchHares$Book") (C := RX3) (T := TX3) (N := 11) hx hb hts qqH tyX3 tyX3_ok nmX3 hown hK hP hD hS 0 rfl rfl 6 (by decide) (hts _ qaqP) (fun _ h9 => h9) rfl (by decide +kernel) rfl rfl (nbq rfl) (qaa qjo 12 rfl) (fun H locs hP hD hS => ?_)
  have hP : va_P (dC, dI) vwCl (qqs a0 jhY ji2 jhn jmo jh5 jjm a2 jkY jl7 jkn jjZ a1 jjO jjP jjN jn2 jjN jm3 jm4 jky jkz jkA jkX jkd jkB jjm jh5 jke jnl jjO cyI jkO jhY cyI jiL ji2 cyI jjH a2 jm6 joz jm6 cyI jnQ jhn cyI jim) H := hP
  have hD : va_D A (qqs a0 jhY ji2 jhn jmo jh5 jjm a2 jkY jl7 jkn jjZ a1 jjO jjP jjN jn2 jjN jm3 jm4 jky jkz jkA jkX jkd jkB jjm jh5 jke jnl jjO cyI jkO jhY cyI jiL ji2 cyI jjH a2 jm6 joz jm6 cyI jnQ jhn cyI jim) := hD
  refine lv_aload_n hx hb (qaa qjo 13 rfl) rfl (lv_at hl 0 rfl) ?_
  refine lv_iconst (v := 0) hx hb (qaa qjo 14 rfl) (by decide) ?_
  refine va_put (D := (dC, dI)) (ci := 3) (v := .int 0) (ty := .int) (C := RX3) (T := TX3) (N := 11) hx hb hts qqH tyX3 tyX3_ok nmX3 hown hK hP hD hS 0 rfl rfl 7 (by decide) (hts _ qasb) (fun _ h9 => h9) rfl (by decide +kernel) rfl rfl (nbq rfl) (qaa qjo 15 rfl) (fun H locs hP hD hS => ?_)
  have hP : va_P (dC, dI) vwCl (qqs a0 jhY ji2 jhn jmo jh5 jjm a2 0 jl7 jkn jjZ a1 jjO jjP jjN jn2 jjN jm3 jm4 jky jkz jkA jkX jkd jkB jjm jh5 jke jnl jjO cyI jkO jhY cyI jiL ji2 cyI jjH a2 jm6 joz jm6 cyI jnQ jhn cyI jim) H := hP
  have hD : va_D A (qqs a0 jhY ji2 jhn jmo jh5 jjm a2 0 jl7 jkn jjZ a1 jjO jjP jjN jn2 jjN jm3 jm4 jky jkz jkA jkX jkd jkB jjm jh5 jke jnl jjO cyI jkO jhY cyI jiL ji2 cyI jjH a2 jm6 joz jm6 cyI jnQ jhn cyI jim) := hD
  refine lv_aload_n hx hb (qaa qhL 0 rfl) rfl (lv_at hl 0 rfl) ?_
  refine lv_iconst (v := (-1)) hx hb (qaa qhL 1 rfl) (by decide) ?_
  refine va_put (D := (dC, dI)) (ci := 3) (v := .int (-1)) (ty := .int) (C := RX3) (T := TX3) (N := 11) hx hb hts qqH tyX3 tyX3_ok nmX3 hown hK hP hD hS 0 rfl rfl 8 (by decide) (hts _ qasA) (fun _ h9 => h9) rfl (by decide +kernel) rfl rfl (nbq rfl) (qaa qhL 2 rfl) (fun H locs hP hD hS => ?_)
  have hP : va_P (dC, dI) vwCl (qqs a0 jhY ji2 jhn jmo jh5 jjm a2 0 (-1) jkn jjZ a1 jjO jjP jjN jn2 jjN jm3 jm4 jky jkz jkA jkX jkd jkB jjm jh5 jke jnl jjO cyI jkO jhY cyI jiL ji2 cyI jjH a2 jm6 joz jm6 cyI jnQ jhn cyI jim) H := hP
  have hD : va_D A (qqs a0 jhY ji2 jhn jmo jh5 jjm a2 0 (-1) jkn jjZ a1 jjO jjP jjN jn2 jjN jm3 jm4 jky jkz jkA jkX jkd jkB jjm jh5 jke jnl jjO cyI jkO jhY cyI jiL ji2 cyI jjH a2 jm6 joz jm6 cyI jnQ jhn cyI jim) := hD
  refine lv_iconst (v := 0) hx hb (qaa qhL 3 rfl) (by decide) ?_
  refine lv_istore_n (lv' := [(3, .int 0), (0, .ref a0), (1, .ref a1), (2, .ref a2)]) hx hb (qaa qhL 4 rfl) rfl hl (by decide) rfl (fun ls hl => ?_)
  obtain ⟨n9, hw⟩ := hw
  exact qaEv dC dI cyB cyI cyJ cyP a0 a1 a2 jjN jhY jjO ji2 jhn jm6 jmo jpg jkn jjZ jjP jn2 jm3 jm4 jky jkz jkA jkX jkd jkB jke jnl joz jjm jh5 jkO jnQ Q C0 n9 _ _ _ jh5 jjm 0 (-1) jiL jjH jim 0 hP hD hS (lv_sub hl [1, 2, 0] rfl) hw
theorem qBT : ∀ w ∈ u_ws RX10 TX10 19, w ∈ wsX10_fits := uiM qyZ qyN (by decide +kernel)
theorem q7g : ∀ w ∈ u_ws RX3 TX3 11, w ∈ wsX10_fits := uiM qyZ euX3 (by decide +kernel)
theorem qatm : (.fieldLink RX10 342 "MarchHares$Fitting" "many" "I" : Cond) ∈ wsX10_fits := qyZ 3460 (by decide +kernel)
theorem qap5 : (.fieldLink RX10 343 "MarchHares$Fitting" "first" "I" : Cond) ∈ wsX10_fits := qyZ 3461 (by decide +kernel)
theorem qayB : (.fieldLink RX10 39 "MarchHares" "lines" "LMarchHares$Book;" : Cond) ∈ wsX10_fits := qyZ 70 (by decide +kernel)
theorem qawh : (.fieldLink RX10 58 "MarchHares" "now" "LMarchHares$Days;" : Cond) ∈ wsX10_fits := qyZ 79 (by decide +kernel)
theorem qQU : (.fieldLink RX10 93 "MarchHares" "fitting" "LMarchHares$Fitting;" : Cond) ∈ wsX10_fits := qyZ 137 (by decide +kernel)
set_option maxHeartbeats 4000000 in
set_option maxRecDepth 100000 in
theorem qaZZ (l : Launch) (dC : Nat → ClassId) (dI : Nat → Nat → Nat) (cyB cyI cyJ cyP : ClassId) (a0 jle jaT jg6 jaR jbb jjI jkf jiM jiE sz : Nat) (jaK jfS ja1 jcp jbc ja3 jbH jbO jaq jac jbI jbl jba jaa jbA jnK jnf jm0 jbr jff jcB jcC jbo jbp jbk jbj jbf jbq jbi jcd jmr : Value) (jbE jbm : Int32) (jbQ jk5 : NI) (jbz jml jmm jmx jmn : Int32) (jmg jmy jlz : NI) (jmC : Value) (p1 : Int32) {E : String → Int32 → Int32 → Int32 → Int32 → Int32 → NI → NI → NI → Value → Prop} {Q : Int32 → Int32 → Int32 → Int32 → Int32 → Int32 → NI → NI → NI → Value → Prop} (hw : q9a jg6 jbE jbm jbQ jk5 jbz jml jmm jmx jmn jmg jmy jlz jmC p1 E Q) : vx_Met l yX10_fits wsX10_fits ({ frames := 8, cells := 1, slots := 6, locals := 164 }) (va_Pc [.ref a0, .int p1] (cPx l (dC, dI) (kT cyB cyI cyJ cyP) (qM3 a0 jaK jfS ja1 jcp jbc jg6 ja3 jbH jaT jbO jaq jac jbI jbl jle jba jaa jbA jbz jle jjI jkf jiE jnK jml jmm jmC jmx jmn jnf jm0 jaT jbb jbr jaR jff jaR jcB jcC jbo jbp jbk jbj jbf jbq jbE jbm jbi jcd jbb cyI jbQ jjI cyI jmg jkf cyI jmy jg6 jiM jmr jiM cyI jk5 jiE cyI jlz) sz)) (va_Qi (fun (r : Int32) (u : Int32 × Int32 × Int32 × Int32 × Int32 × NI × NI × NI × Value) => Q r u.1 u.2.1 u.2.2.1 u.2.2.2.1 u.2.2.2.2.1 u.2.2.2.2.2.1 u.2.2.2.2.2.2.1 u.2.2.2.2.2.2.2.1 u.2.2.2.2.2.2.2.2) (cB (dC, dI) (kT cyB cyI cyJ cyP) (va_A (qM3 a0 jaK jfS ja1 jcp jbc jg6 ja3 jbH jaT jbO jaq jac jbI jbl jle jba jaa jbA jbz jle jjI jkf jiE jnK jml jmm jmC jmx jmn jnf jm0 jaT jbb jbr jaR jff jaR jcB jcC jbo jbp jbk jbj jbf jbq jbE jbm jbi jcd jbb cyI jbQ jjI cyI jmg jkf cyI jmy jg6 jiM jmr jiM cyI jk5 jiE cyI jlz) sz) (fun u : Int32 × Int32 × Int32 × Int32 × Int32 × NI × NI × NI × Value => ((qM3 a0 jaK jfS ja1 jcp jbc jg6 ja3 jbH jaT jbO jaq jac jbI jbl jle jba jaa jbA u.1 jle jjI jkf jiE jnK u.2.1 u.2.2.1 u.2.2.2.2.2.2.2.2 u.2.2.2.1 u.2.2.2.2.1 jnf jm0 jaT jbb jbr jaR jff jaR jcB jcC jbo jbp jbk jbj jbf jbq jbE jbm jbi jcd jbb cyI jbQ jjI cyI u.2.2.2.2.2.1 jkf cyI u.2.2.2.2.2.2.1 jg6 jiM jmr jiM cyI jk5 jiE cyI u.2.2.2.2.2.2.2.1) : va_W))) (va_A (qM3 a0 jaK jfS ja1 jcp jbc jg6 ja3 jbH jaT jbO jaq jac jbI jbl jle jba jaa jbA jbz jle jjI jkf jiE jnK jml jmm jmC jmx jmn jnf jm0 jaT jbb jbr jaR jff jaR jcB jcC jbo jbp jbk jbj jbf jbq jbE jbm jbi jcd jbb cyI jbQ jjI cyI jmg jkf cyI jmy jg6 jiM jmr jiM cyI jk5 jiE cyI jlz) sz)) (vx_X (fun _ => True) (fun (en : String) (u : Int32 × Int32 × Int32 × Int32 × Int32 × NI × NI × NI × Value) (t : State) => E en u.1 u.2.1 u.2.2.1 u.2.2.2.1 u.2.2.2.2.1 u.2.2.2.2.2.1 u.2.2.2.2.2.2.1 u.2.2.2.2.2.2.2.1 u.2.2.2.2.2.2.2.2 ∧ cB (dC, dI) (kT cyB cyI cyJ cyP) (va_A (qM3 a0 jaK jfS ja1 jcp jbc jg6 ja3 jbH jaT jbO jaq jac jbI jbl jle jba jaa jbA jbz jle jjI jkf jiE jnK jml jmm jmC jmx jmn jnf jm0 jaT jbb jbr jaR jff jaR jcB jcC jbo jbp jbk jbj jbf jbq jbE jbm jbi jcd jbb cyI jbQ jjI cyI jmg jkf cyI jmy jg6 jiM jmr jiM cyI jk5 jiE cyI jlz) sz) (fun u : Int32 × Int32 × Int32 × Int32 × Int32 × NI × NI × NI × Value => ((qM3 a0 jaK jfS ja1 jcp jbc jg6 ja3 jbH jaT jbO jaq jac jbI jbl jle jba jaa jbA u.1 jle jjI jkf jiE jnK u.2.1 u.2.2.1 u.2.2.2.2.2.2.2.2 u.2.2.2.1 u.2.2.2.2.1 jnf jm0 jaT jbb jbr jaR jff jaR jcB jcC jbo jbp jbk jbj jbf jbq jbE jbm jbi jcd jbb cyI jbQ jjI cyI u.2.2.2.2.2.1 jkf cyI u.2.2.2.2.2.2.1 jg6 jiM jmr jiM cyI jk5 jiE cyI u.2.2.2.2.2.2.2.1) : va_W)) u t) (va_A (qM3 a0 jaK jfS ja1 jcp jbc jg6 ja3 jbH jaT jbO jaq jac jbI jbl jle jba jaa jbA jbz jle jjI jkf jiE jnK jml jmm jmC jmx jmn jnf jm0 jaT jbb jbr jaR jff jaR jcB jcC jbo jbp jbk jbj jbf jbq jbE jbm jbi jcd jbb cyI jbQ jjI cyI jmg jkf cyI jmy jg6 jiM jmr jiM cyI jk5 jiE cyI jlz) sz)) 1 6 (va_A (qM3 a0 jaK jfS ja1 jcp jbc jg6 ja3 jbH jaT jbO jaq jac jbI jbl jle jba jaa jbA jbz jle jjI jkf jiE jnK jml jmm jmC jmx jmn jnf jm0 jaT jbb jbr jaR jff jaR jcB jcC jbo jbp jbk jbj jbf jbq jbE jbm jbi jcd jbb cyI jbQ jjI cyI jmg jkf cyI jmy jg6 jiM jmr jiM cyI jk5 jiE cyI jlz) sz) := by
  refine vx_ofW (cc := cX10_fits) (maxL := 2) (ret := (some .int)) (by decide) rfl ?_
  intro p e s m args below meth c s₁ B hml hnt hv
  obtain ⟨rfl, hsz, hP, hK, hD0, hNw, hXl, hXu, hXn, hXt⟩ := hv
  have hx := B.exec
  have hb := B.bytes
  have hr := B.returns
  have hts := atoms_spec (ws := wsX10_fits) B.pre
  have hown : s.vm.findClass RX10 = some m.cls := findClass_of_methodNamed B.named
  have hlocks := B.notSynchronized
  subst hsz
  have hD := hD0.self (sz := s.heap.size)
  generalize hAe : va_A (qM3 a0 jaK jfS ja1 jcp jbc jg6 ja3 jbH jaT jbO jaq jac jbI jbl jle jba jaa jbA jbz jle jjI jkf jiE jnK jml jmm jmC jmx jmn jnf jm0 jaT jbb jbr jaR jff jaR jcB jcC jbo jbp jbk jbj jbf jbq jbE jbm jbi jcd jbb cyI jbQ jjI cyI jmg jkf cyI jmy jg6 jiM jmr jiM cyI jk5 jiE cyI jlz) s.heap.size = A at hD hXu hXn ⊢
  have hA : ∀ q : Nat, s.heap.size ≤ q → A q := fun q h => by rw [← hAe]; exact Or.inr h
  have hS : va_S A s.heap s.heap [] := va_S.rf
  have hP : va_P (dC, dI) vwCl (qM3 a0 jaK jfS ja1 jcp jbc jg6 ja3 jbH jaT jbO jaq jac jbI jbl jle jba jaa jbA jbz jle jjI jkf jiE jnK jml jmm jmC jmx jmn jnf jm0 jaT jbb jbr jaR jff jaR jcB jcC jbo jbp jbk jbj jbf jbq jbE jbm jbi jcd jbb cyI jbQ jjI cyI jmg jkf cyI jmy jg6 jiM jmr jiM cyI jk5 jiE cyI jlz) s.heap := hP
  have hl := lv_entry ([.ref a0, .int p1]) (n := 2) (nbq rfl)
  rw [lg_entry_eq]
  generalize (lg_sl ([.ref a0, .int p1]) ++ List.replicate (2 - (lg_sl ([.ref a0, .int p1])).length) Slot.unset).toArray = ls at hl ⊢
  have hl : lv_has ls 2 [(0, .ref a0), (1, .int p1)] := hl
  have hY : cfY l s A := ⟨hXl, hXu, hXn, hXt⟩
  have hXs : cfX l s c A := ⟨hnt, hY⟩
  have C0 : cfx p s m _ meth c cX10_fits (some .int) wsX10_fits RX10 2 A (dC, dI) (kT cyB cyI cyJ cyP) ∧ cfX l s c A := ⟨⟨hx, hb, hr, hts, hown, hlocks, hml, hA, hK, hNw⟩, hXs⟩
  clear hAe
  obtain ⟨H, hH⟩ : ∃ H, H = s.heap := ⟨_, rfl⟩
  rw [← hH] at hP ⊢
  have hS : va_S A s.heap H [] := by rw [hH]; exact va_S.rf
  have hS := hS
  refine lv_aload_n hx hb (qaa qmQ 0 rfl) rfl (lv_at hl 0 rfl) ?_
  refine lv_iload_n hx hb (qaa qmQ 1 rfl) rfl (lv_at hl 1 rfl) ?_
  refine lv_iconst (v := 0) hx hb (qaa qmQ 2 rfl) (by decide) ?_
  refine lv_iconst (v := 1) hx hb (qaa qmQ 3 rfl) (by decide) ?_
  obtain ⟨hCc, hPc, hDc, hFc⟩ := qac (ws' := (qaMD a0 jaK jfS ja1 jcp jbc jg6 ja3 jbH jaT jbO jaq jac jbI jbl jle jba jaa jbA jbz)) hP hD hS hA [0] (by decide +kernel) rfl
  refine vx_callv (vx_runV (As := [.int p1, .int 0, .int 1]) (rest := []) ⟨hx, hb, hml, hown, hts⟩ (qaV l dC dI cyB cyI cyJ cyP a0 H.size (jaK) (jfS) (ja1) (jcp) (jbc) (.ref jg6) (ja3) (jbH) (.ref jaT) (jbO) (jaq) (jac) (jbI) (jbl) (.ref jle) (jba) (jaa) (jbA) jbz p1 0 1 hw) (cwV 3 hts gX10_fits_X10_needWithin rfl rfl rfl (by decide +kernel) ⟨nbq rfl, nbq rfl⟩) ⟨qav, va_recv (q := (RX10, TX10, 19)) hK hPc (ci := 10) (q0 := 0) rfl rfl, qbl hPc hK hDc hNw hY hS hFc⟩ rfl rfl hl.1 rfl (lv_room (nbq rfl)) (qaa qmQ 4 rfl) ⟨nbq rfl, nbq rfl⟩) hS (fun q _ h => hFc q h) hFc (fun q _ h => hFc q h) (fun en ce q9 u t H1 locs ht hvm hpx hB hz1 hk1 hS hc9 hv9 hcl9 => ?_) (fun u t H1 locs ht hvm hw hB hz1 hk1 hS => ?_)
  · obtain ⟨x1, rfl⟩ : ∃ z, z = u := ⟨_, rfl⟩
    obtain ⟨hw, hP1, hK1, hD1⟩ := hB
    rw [ht] at hP1
    obtain ⟨hP, hD⟩ := qad (wr := (qJE jle jjI jkf jiE jnK jml jmm jmC jmx jmn jnf jm0 jaT jbb jbr jaR jff jaR jcB jcC jbo jbp jbk jbj jbf jbq jbE jbm jbi jcd jbb cyI jbQ jjI cyI jmg jkf cyI jmy jg6 jiM jmr jiM cyI jk5 jiE cyI jlz)) (w1 := (qaMD a0 jaK jfS ja1 jcp jbc jg6 ja3 jbH jaT jbO jaq jac jbI jbl jle jba jaa jbA x1)) (wn := (qM3 a0 jaK jfS ja1 jcp jbc jg6 ja3 jbH jaT jbO jaq jac jbI jbl jle jba jaa jbA x1 jle jjI jkf jiE jnK jml jmm jmC jmx jmn jnf jm0 jaT jbb jbr jaR jff jaR jcB jcC jbo jbp jbk jbj jbf jbq jbE jbm jbi jcd jbb cyI jbQ jjI cyI jmg jkf cyI jmy jg6 jiM jmr jiM cyI jk5 jiE cyI jlz)) hP hD [0] [1, 2, 3, 4, 5, 6, 7, 8, 9] [9, 0, 1, 2, 3, 4, 5, 6, 7, 8] hCc rfl (by decide +kernel) (by decide +kernel) (by decide +kernel) rfl hk1 hFc hP1 hD1
    generalize H1 = H at hP hS hc9 ⊢
    exact vx_out (fun x hx9 => (hXs.1 x hx9).elim) hlocks hc9 hv9 hcl9 (fun t2 ht2 hal2 => ⟨(x1, jml, jmm, jmx, jmn, jmg, jmy, jlz, jmC), trivial, ⟨hw, by rw [ht2]; exact hP, va_K.moved hal2 hK, hD⟩, hS.F ht2⟩) hS.2.2 (nbq rfl) (nbq rfl)
  obtain ⟨x1, rfl⟩ : ∃ z, z = u := ⟨_, rfl⟩
  obtain ⟨hP1, hK1, hD1⟩ := hB
  rw [ht] at hP1
  obtain ⟨hP, hD⟩ := qad (wr := (qJE jle jjI jkf jiE jnK jml jmm jmC jmx jmn jnf jm0 jaT jbb jbr jaR jff jaR jcB jcC jbo jbp jbk jbj jbf jbq jbE jbm jbi jcd jbb cyI jbQ jjI cyI jmg jkf cyI jmy jg6 jiM jmr jiM cyI jk5 jiE cyI jlz)) (w1 := (qaMD a0 jaK jfS ja1 jcp jbc jg6 ja3 jbH jaT jbO jaq jac jbI jbl jle jba jaa jbA x1)) (wn := (qM3 a0 jaK jfS ja1 jcp jbc jg6 ja3 jbH jaT jbO jaq jac jbI jbl jle jba jaa jbA x1 jle jjI jkf jiE jnK jml jmm jmC jmx jmn jnf jm0 jaT jbb jbr jaR jff jaR jcB jcC jbo jbp jbk jbj jbf jbq jbE jbm jbi jcd jbb cyI jbQ jjI cyI jmg jkf cyI jmy jg6 jiM jmr jiM cyI jk5 jiE cyI jlz)) hP hD [0] [1, 2, 3, 4, 5, 6, 7, 8, 9] [9, 0, 1, 2, 3, 4, 5, 6, 7, 8] hCc rfl (by decide +kernel) (by decide +kernel) (by decide +kernel) rfl hk1 hFc hP1 hD1
  generalize H1 = H at hP hS ⊢
  refine lv_aload_n hx hb (qaa qmQ 5 rfl) rfl (lv_at hl 0 rfl) ?_
  refine va_get (D := (dC, dI)) (ci := 10) (v := .ref jle) (C := RX10) (T := TX10) (N := 19) hx hb hts qBT hown hK hP 0 rfl rfl 14 (by decide) (hts _ qQU) (fun _ h9 => h9) rfl (qaa qmQ 6 rfl) ?_
  refine lv_aload_n hx hb (qaa qmQ 7 rfl) rfl (lv_at hl 0 rfl) ?_
  refine va_get (D := (dC, dI)) (ci := 10) (v := .ref jaT) (C := RX10) (T := TX10) (N := 19) hx hb hts qBT hown hK hP 0 rfl rfl 8 (by decide) (hts _ qawh) (fun _ h9 => h9) rfl (qaa qmQ 8 rfl) ?_
  refine lv_aload_n hx hb (qaa qmQ 9 rfl) rfl (lv_at hl 0 rfl) ?_
  refine va_get (D := (dC, dI)) (ci := 10) (v := .ref jg6) (C := RX10) (T := TX10) (N := 19) hx hb hts qBT hown hK hP 0 rfl rfl 5 (by decide) (hts _ qayB) (fun _ h9 => h9) rfl (qaa qmQ 10 rfl) ?_
  obtain ⟨hCc, hPc, hDc, hFc⟩ := qac (ws' := (qJE jle jjI jkf jiE jnK jml jmm jmC jmx jmn jnf jm0 jaT jbb jbr jaR jff jaR jcB jcC jbo jbp jbk jbj jbf jbq jbE jbm jbi jcd jbb cyI jbQ jjI cyI jmg jkf cyI jmy jg6 jiM jmr jiM cyI jk5 jiE cyI jlz)) hP hD hS hA [1, 2, 3, 4, 5, 6, 7, 8, 9] (by decide +kernel) rfl
  refine va_callv (va_runV (As := [.ref jaT, .ref jg6]) (rest := []) ⟨hx, hb, hml, hown, hts⟩ (qan8 l dC dI cyB cyI cyJ cyP jle jaT jg6 jaR jjI jbb jkf jiE jiM H.size (jnK) (jmC) (jnf) (jm0) (jbr) (jff) (jcB) (jcC) (jbo) (jbp) (jbk) (jbj) (jbf) (jbq) (jbi) (jcd) (jmr) jbE jbm jbQ jk5 jml jmm jmx jmn jmg jmy jlz hw) (cwV 2 hts gX10_fits_X3_settle rfl rfl rfl (by decide +kernel) ⟨nbq rfl, nbq rfl⟩) ⟨qab, va_recv (q := (RX3, TX3, 11)) hK hPc (ci := 3) (q0 := 0) rfl rfl, qae hPc hK hDc hNw⟩ rfl rfl hl.1 rfl (lv_room (nbq rfl)) (qaa qmQ 11 rfl) ⟨nbq rfl, nbq rfl⟩) hS (fun q _ h => hFc q h) hFc (fun u t H1 locs ht hvm hw hB hz1 hk1 hS => ?_)
  obtain ⟨x2, x3, x4, x5, f6, f7, f8⟩ := u
  obtain ⟨hP1, hK1, hD1⟩ := hB
  rw [ht] at hP1
  obtain ⟨hP, hD⟩ := qah (wr := (qaMD a0 jaK jfS ja1 jcp jbc jg6 ja3 jbH jaT jbO jaq jac jbI jbl jle jba jaa jbA x1)) (w1 := (qqs jle jjI jkf jiE jnK x2 x3 jg6 x4 x5 jnf jm0 jaT jbb jbr jaR jff jaR jcB jcC jbo jbp jbk jbj jbf jbq jbE jbm jbi jcd jbb cyI jbQ jjI cyI f6 jkf cyI f7 jg6 jiM jmr jiM cyI jk5 jiE cyI f8)) (wn := (qbeR a0 jaK jfS ja1 jcp jbc jg6 ja3 jbH jaT jbO jaq jac jbI jbl jle jba jaa jbA x1 jle jjI jkf jiE jnK x2 x3 jg6 x4 x5 jnf jm0 jaT jbb jbr jaR jff jaR jcB jcC jbo jbp jbk jbj jbf jbq jbE jbm jbi jcd jbb cyI jbQ jjI cyI f6 jkf cyI f7 jg6 jiM jmr jiM cyI jk5 jiE cyI f8)) hP hD [1, 2, 3, 4, 5, 6, 7, 8, 9] [0] hCc rfl (by decide +kernel) (by decide +kernel) rfl hk1 hFc hP1 hD1
  generalize H1 = H at hP hS ⊢
  refine lv_iload_n hx hb (qaa qmQ 12 rfl) rfl (lv_at hl 1 rfl) ?_
  refine lv_if_ne (tgt := 36) hx hb (qaa qmQ 13 rfl) (by decide) (fun c9 => ?_) (fun c9 => ?_)
  · have hw := hw.1 c9
    refine lv_aload_n hx hb (qaa qxQ 2 rfl) rfl (lv_at hl 0 rfl) ?_
    refine va_get (D := (dC, dI)) (ci := 10) (v := .ref jle) (C := RX10) (T := TX10) (N := 19) hx hb hts qBT hown hK hP 0 rfl rfl 14 (by decide) (hts _ qQU) (fun _ h9 => h9) rfl (qaa qxQ 3 rfl) ?_
    refine va_get (D := (dC, dI)) (ci := 3) (v := .int x5) (C := RX3) (T := TX3) (N := 11) hx hb hts q7g hown hK hP 1 rfl rfl 8 (by decide) (hts _ qap5) (fun _ h9 => h9) rfl (qaa qxQ 4 rfl) ?_
    exact vx_ret (W.widen (k := 1) (n := 6) (nbq rfl) (nbq rfl) (W.iret (v := x5) hx hb hr (fun t ht hW => ⟨⟨x5, (x1, x2, x3, x4, x5, f6, f7, f8, (.ref jg6)), rfl, hw, by rw [ht]; exact hP, va_K.moved hW.alike hK, hD⟩, hS.F ht⟩) hS.2.2 (qaa qxQ 5 rfl)))
  · have hw := hw.2 c9
    refine lv_aload_n hx hb (qaa qmQ 14 rfl) rfl (lv_at hl 0 rfl) ?_
    refine va_get (D := (dC, dI)) (ci := 10) (v := .ref jle) (C := RX10) (T := TX10) (N := 19) hx hb hts qBT hown hK hP 0 rfl rfl 14 (by decide) (hts _ qQU) (fun _ h9 => h9) rfl (qaa qmQ 15 rfl) ?_
    refine va_get (D := (dC, dI)) (ci := 3) (v := .int x4) (C := RX3) (T := TX3) (N := 11) hx hb hts q7g hown hK hP 1 rfl rfl 7 (by decide) (hts _ qatm) (fun _ h9 => h9) rfl (qaa qxQ 0 rfl) ?_
    refine lv_goto (tgt := 43) hx hb (qaa qxQ 1 rfl) (by decide) ?_
    exact vx_ret (W.widen (k := 1) (n := 6) (nbq rfl) (nbq rfl) (W.iret (v := x4) hx hb hr (fun t ht hW => ⟨⟨x4, (x1, x2, x3, x4, x5, f6, f7, f8, (.ref jg6)), rfl, hw, by rw [ht]; exact hP, va_K.moved hW.alike hK, hD⟩, hS.F ht⟩) hS.2.2 (qaa qxQ 5 rfl)))
theorem qaHV : (.classLink RL 13 "java/lang/IllegalArgumentException" : Cond) ∈ wsL_fits := qavf 595 (by decide +kernel)
theorem qaVT : (.codeWith yL_fits cL_fits 4 (some .int) [(0, 9, 12, 13)] : Cond) ∈ wsL_fits := qavf 3415 (by decide +kernel)
set_option maxHeartbeats 4000000 in
set_option maxRecDepth 100000 in
theorem qa6Y (l : Launch) (dC : Nat → ClassId) (dI : Nat → Nat → Nat) (cyB cyI cyJ cyP : ClassId) (a0 a2 jle jaT jaR jbb jjI jkf jg6 jiM jiE sz : Nat) (jaK ja1 jcp jbc ja3 jbH jbO jaq jac jbI jbl jba jaa jbA jnK jnf jm0 jbr jff jcB jcC jbo jbp jbk jbj jbf jbq jbi jcd jmr : Value) (n2 : Nat) (jbE jbm : Int32) (jbQ jk5 : NI) (jbz jml jmm jmx jmn : Int32) (jmg jmy jlz : NI) (jmC : Value) (f2 : Nat → Int64) (p1 : Int32) {Q : Int32 → Int32 → Int32 → Int32 → Int32 → Int32 → NI → NI → NI → Value → (Nat → Int64) → Prop} (hw : qaVf jg6 n2 jbE jbm jbQ jk5 jbz jml jmm jmx jmn jmg jmy jlz jmC f2 p1 Q) : Met l yL_fits wsL_fits ({ frames := 9, cells := 1, slots := 6, locals := 185 }) (va_Pc [.ref a0, .int p1, .ref a2] (cPx l (dC, dI) (kT cyB cyI cyJ cyP) (qM7 a0 jaK jaR ja1 jcp jbc jg6 ja3 jbH jaT jbO jaq jac jbI jbl jle jba jaa jbA jbz jle jjI jkf jiE jnK jml jmm jmC jmx jmn jnf jm0 jaT jbb jbr jaR jff jaR jcB jcC jbo jbp jbk jbj jbf jbq jbE jbm jbi jcd jbb cyI jbQ jjI cyI jmg jkf cyI jmy jg6 jiM jmr jiM cyI jk5 jiE cyI jlz a2 cyJ n2 f2) sz)) (va_Qi (fun (r : Int32) (u : Int32 × Int32 × Int32 × Int32 × Int32 × NI × NI × NI × Value × (Nat → Int64)) => Q r u.1 u.2.1 u.2.2.1 u.2.2.2.1 u.2.2.2.2.1 u.2.2.2.2.2.1 u.2.2.2.2.2.2.1 u.2.2.2.2.2.2.2.1 u.2.2.2.2.2.2.2.2.1 u.2.2.2.2.2.2.2.2.2) (cB (dC, dI) (kT cyB cyI cyJ cyP) (va_A (qM7 a0 jaK jaR ja1 jcp jbc jg6 ja3 jbH jaT jbO jaq jac jbI jbl jle jba jaa jbA jbz jle jjI jkf jiE jnK jml jmm jmC jmx jmn jnf jm0 jaT jbb jbr jaR jff jaR jcB jcC jbo jbp jbk jbj jbf jbq jbE jbm jbi jcd jbb cyI jbQ jjI cyI jmg jkf cyI jmy jg6 jiM jmr jiM cyI jk5 jiE cyI jlz a2 cyJ n2 f2) sz) (fun u : Int32 × Int32 × Int32 × Int32 × Int32 × NI × NI × NI × Value × (Nat → Int64) => ((qM7 a0 jaK jaR ja1 jcp jbc jg6 ja3 jbH jaT jbO jaq jac jbI jbl jle jba jaa jbA u.1 jle jjI jkf jiE jnK u.2.1 u.2.2.1 u.2.2.2.2.2.2.2.2.1 u.2.2.2.1 u.2.2.2.2.1 jnf jm0 jaT jbb jbr jaR jff jaR jcB jcC jbo jbp jbk jbj jbf jbq jbE jbm jbi jcd jbb cyI jbQ jjI cyI u.2.2.2.2.2.1 jkf cyI u.2.2.2.2.2.2.1 jg6 jiM jmr jiM cyI jk5 jiE cyI u.2.2.2.2.2.2.2.1 a2 cyJ n2 u.2.2.2.2.2.2.2.2.2) : va_W))) (va_A (qM7 a0 jaK jaR ja1 jcp jbc jg6 ja3 jbH jaT jbO jaq jac jbI jbl jle jba jaa jbA jbz jle jjI jkf jiE jnK jml jmm jmC jmx jmn jnf jm0 jaT jbb jbr jaR jff jaR jcB jcC jbo jbp jbk jbj jbf jbq jbE jbm jbi jcd jbb cyI jbQ jjI cyI jmg jkf cyI jmy jg6 jiM jmr jiM cyI jk5 jiE cyI jlz a2 cyJ n2 f2) sz)) 1 6 (va_A (qM7 a0 jaK jaR ja1 jcp jbc jg6 ja3 jbH jaT jbO jaq jac jbI jbl jle jba jaa jbA jbz jle jjI jkf jiE jnK jml jmm jmC jmx jmn jnf jm0 jaT jbb jbr jaR jff jaR jcB jcC jbo jbp jbk jbj jbf jbq jbE jbm jbi jcd jbb cyI jbQ jjI cyI jmg jkf cyI jmy jg6 jiM jmr jiM cyI jk5 jiE cyI jlz a2 cyJ n2 f2) sz) := by
  refine va_MetW (cc := cL_fits) (maxL := 4) (ret := (some .int)) (by decide) rfl ?_
  intro p e s m args below meth c s₁ B hml hv
  obtain ⟨rfl, hsz, hP, hK, hD0, hNw, hXl, hXu, hXn, hXt⟩ := hv
  have hx := B.exec
  have hb := B.bytes
  have hr := B.returns
  have hts := atoms_spec (ws := wsL_fits) B.pre
  have hown : s.vm.findClass RL = some m.cls := findClass_of_methodNamed B.named
  have hlocks := B.notSynchronized
  subst hsz
  have hD := hD0.self (sz := s.heap.size)
  generalize hAe : va_A (qM7 a0 jaK jaR ja1 jcp jbc jg6 ja3 jbH jaT jbO jaq jac jbI jbl jle jba jaa jbA jbz jle jjI jkf jiE jnK jml jmm jmC jmx jmn jnf jm0 jaT jbb jbr jaR jff jaR jcB jcC jbo jbp jbk jbj jbf jbq jbE jbm jbi jcd jbb cyI jbQ jjI cyI jmg jkf cyI jmy jg6 jiM jmr jiM cyI jk5 jiE cyI jlz a2 cyJ n2 f2) s.heap.size = A at hD hXu hXn ⊢
  have hA : ∀ q : Nat, s.heap.size ≤ q → A q := fun q h => by rw [← hAe]; exact Or.inr h
  have hS : va_S A s.heap s.heap [] := va_S.rf
  have hP : va_P (dC, dI) vwCl (qM7 a0 jaK jaR ja1 jcp jbc jg6 ja3 jbH jaT jbO jaq jac jbI jbl jle jba jaa jbA jbz jle jjI jkf jiE jnK jml jmm jmC jmx jmn jnf jm0 jaT jbb jbr jaR jff jaR jcB jcC jbo jbp jbk jbj jbf jbq jbE jbm jbi jcd jbb cyI jbQ jjI cyI jmg jkf cyI jmy jg6 jiM jmr jiM cyI jk5 jiE cyI jlz a2 cyJ n2 f2) s.heap := hP
  have hl := lv_entry ([.ref a0, .int p1, .ref a2]) (n := 4) (nbq rfl)
  rw [lg_entry_eq]
  generalize (lg_sl ([.ref a0, .int p1, .ref a2]) ++ List.replicate (4 - (lg_sl ([.ref a0, .int p1, .ref a2])).length) Slot.unset).toArray = ls at hl ⊢
  have hl : lv_has ls 4 [(0, .ref a0), (1, .int p1), (2, .ref a2)] := hl
  have hY : cfY l s A := ⟨hXl, hXu, hXn, hXt⟩
  have hTb := vx_table (x := yL_fits) B (hts _ qaVT)
  clear hAe
  obtain ⟨H, hH⟩ : ∃ H, H = s.heap := ⟨_, rfl⟩
  rw [← hH] at hP ⊢
  have hS : va_S A s.heap H [] := by rw [hH]; exact va_S.rf
  have hS := hS
  refine lv_aload_n hx hb (qaa qtf 0 rfl) rfl (lv_at hl 2 rfl) ?_
  refine lv_iconst (v := 0) hx hb (qaa qtf 1 rfl) (by decide) ?_
  refine lv_aload_n hx hb (qaa qtf 2 rfl) rfl (lv_at hl 0 rfl) ?_
  refine lv_iload_n hx hb (qaa qtf 3 rfl) rfl (lv_at hl 1 rfl) ?_
  obtain ⟨hCc, hPc, hDc, hFc⟩ := qac (ws' := (qaYL a0 jaK jaR ja1 jcp jbc jg6 ja3 jbH jaT jbO jaq jac jbI jbl jle jba jaa jbA jbz jle jjI jkf jiE jnK jml jmm jmC jmx jmn jnf jm0 jaT jbb jbr jaR jff jaR jcB jcC jbo jbp jbk jbj jbf jbq jbE jbm jbi jcd jbb cyI jbQ jjI cyI jmg jkf cyI jmy jg6 jiM jmr jiM cyI jk5 jiE cyI jlz)) hP hD hS hA [0, 1, 2, 3, 4, 5, 6, 7, 8, 9] (by decide +kernel) rfl
  refine vx_calli (vx_runV (As := [.int p1]) (rest := [.int 0, .ref a2]) ⟨hx, hb, hml, hown, hts⟩ (qaZZ l dC dI cyB cyI cyJ cyP a0 jle jaT jg6 jaR jbb jjI jkf jiM jiE H.size (jaK) (.ref jaR) (ja1) (jcp) (jbc) (ja3) (jbH) (jbO) (jaq) (jac) (jbI) (jbl) (jba) (jaa) (jbA) (jnK) (jnf) (jm0) (jbr) (jff) (jcB) (jcC) (jbo) (jbp) (jbk) (jbj) (jbf) (jbq) (jbi) (jcd) (jmr) jbE jbm jbQ jk5 jbz jml jmm jmx jmn jmg jmy jlz jmC p1 hw) (cwV 1 hts gL_fits_X10_fits rfl rfl rfl (by decide +kernel) ⟨nbq rfl, nbq rfl⟩) ⟨qav, va_recv (q := (RX10, TX10, 19)) hK hPc (ci := 10) (q0 := 0) rfl rfl, qbl hPc hK hDc hNw hY hS hFc⟩ rfl rfl hl.1 rfl (lv_room (nbq rfl)) (qaa qtf 4 rfl) ⟨nbq rfl, nbq rfl⟩) hS (fun q _ h => hFc q h) hFc (fun q _ h => hFc q h) (fun en ce qx9 u t H1 locs ht hvm hpx hB hz1 hk1 hS hc9 hv9 hcl9 => ?_) (fun r10 u t H1 locs ht hvm hw hB hz1 hk1 hS => ?_)
  · obtain ⟨x1, x2, x3, x4, x5, f6, f7, f8, q9⟩ := u
    obtain ⟨hw, hP1, hK1, hD1⟩ := hB
    rw [ht] at hP1
    obtain ⟨hP, hD⟩ := qad (wr := [(a2, .inl (cyJ, n2, .inr (.inl f2)))]) (w1 := (qaYL a0 jaK jaR ja1 jcp jbc jg6 ja3 jbH jaT jbO jaq jac jbI jbl jle jba jaa jbA x1 jle jjI jkf jiE jnK x2 x3 q9 x4 x5 jnf jm0 jaT jbb jbr jaR jff jaR jcB jcC jbo jbp jbk jbj jbf jbq jbE jbm jbi jcd jbb cyI jbQ jjI cyI f6 jkf cyI f7 jg6 jiM jmr jiM cyI jk5 jiE cyI f8)) (wn := (qM7 a0 jaK jaR ja1 jcp jbc jg6 ja3 jbH jaT jbO jaq jac jbI jbl jle jba jaa jbA x1 jle jjI jkf jiE jnK x2 x3 q9 x4 x5 jnf jm0 jaT jbb jbr jaR jff jaR jcB jcC jbo jbp jbk jbj jbf jbq jbE jbm jbi jcd jbb cyI jbQ jjI cyI f6 jkf cyI f7 jg6 jiM jmr jiM cyI jk5 jiE cyI f8 a2 cyJ n2 f2)) hP hD [0, 1, 2, 3, 4, 5, 6, 7, 8, 9] [10] [1, 2, 3, 4, 5, 6, 7, 8, 9, 10, 0] hCc rfl (by decide +kernel) (by decide +kernel) (by decide +kernel) rfl hk1 hFc hP1 hD1
    generalize H1 = H at hP hS hc9 ⊢
    obtain ⟨rfl, hw⟩ := hw
    refine vx_catch (own := RL) (name := "java/lang/IllegalArgumentException") hown [] ⟨0, 9, 12, 13⟩ [] (hTb.trans rfl) (fun z hz => nomatch hz) (by decide) (by decide) (hts _ qaHV) (va_Nw.use rfl (hY.2.2.2.1.2 _ (List.mem_of_getElem? (i := 0) rfl))) hc9 hv9 hcl9 ?_
    refine lv_astore_n (lv' := [(3, .ref qx9), (0, .ref a0), (1, .int p1), (2, .ref a2)]) hx hb (qaa qtf 8 rfl) rfl hl (by decide) rfl (fun ls hl => ?_)
    refine lv_iconst (v := 1) hx hb (qaa qtf 9 rfl) (by decide) ?_
    exact (W.widen (k := 1) (n := 6) (nbq rfl) (nbq rfl) (W.iret (v := 1) hx hb hr (fun t ht hW => ⟨⟨1, (x1, x2, x3, x4, x5, f6, f7, f8, q9, f2), rfl, hw, by rw [ht]; exact hP, va_K.moved hW.alike hK, hD⟩, hS.F ht⟩) hS.2.2 (qaa qtf 10 rfl)))
  obtain ⟨x1, x2, x3, x4, x5, f6, f7, f8, q9⟩ := u
  obtain ⟨hP1, hK1, hD1⟩ := hB
  rw [ht] at hP1
  obtain ⟨hP, hD⟩ := va_join (wr := [(a2, .inl (cyJ, n2, .inr (.inl f2)))]) (w1 := (qaYL a0 jaK jaR ja1 jcp jbc jg6 ja3 jbH jaT jbO jaq jac jbI jbl jle jba jaa jbA x1 jle jjI jkf jiE jnK x2 x3 q9 x4 x5 jnf jm0 jaT jbb jbr jaR jff jaR jcB jcC jbo jbp jbk jbj jbf jbq jbE jbm jbi jcd jbb cyI jbQ jjI cyI f6 jkf cyI f7 jg6 jiM jmr jiM cyI jk5 jiE cyI f8)) hP hD [0, 1, 2, 3, 4, 5, 6, 7, 8, 9] [10] rfl rfl (by decide) (by decide) hk1 hFc hP1 hD1
  have hP : va_P (dC, dI) vwCl (qM7 a0 jaK jaR ja1 jcp jbc jg6 ja3 jbH jaT jbO jaq jac jbI jbl jle jba jaa jbA x1 jle jjI jkf jiE jnK x2 x3 q9 x4 x5 jnf jm0 jaT jbb jbr jaR jff jaR jcB jcC jbo jbp jbk jbj jbf jbq jbE jbm jbi jcd jbb cyI jbQ jjI cyI f6 jkf cyI f7 jg6 jiM jmr jiM cyI jk5 jiE cyI f8 a2 cyJ n2 f2) H1 := hP.sub [1, 2, 3, 4, 5, 6, 7, 8, 9, 10, 0] rfl
  have hD : va_D A (qM7 a0 jaK jaR ja1 jcp jbc jg6 ja3 jbH jaT jbO jaq jac jbI jbl jle jba jaa jbA x1 jle jjI jkf jiE jnK x2 x3 q9 x4 x5 jnf jm0 jaT jbb jbr jaR jff jaR jcB jcC jbo jbp jbk jbj jbf jbq jbE jbm jbi jcd jbb cyI jbQ jjI cyI f6 jkf cyI f7 jg6 jiM jmr jiM cyI jk5 jiE cyI f8 a2 cyJ n2 f2) := hD.sub [1, 2, 3, 4, 5, 6, 7, 8, 9, 10, 0] (by decide) rfl
  generalize H1 = H at hP hS ⊢
  refine lv_i2l (v := r10.toInt64) hx hb (qaa qtf 5 rfl) rfl ?_
  refine lv_topl (fun x11 ex11 => ?_)
  have hw := hw x11 ex11
  obtain ⟨hi9, hw⟩ := hw
  refine va_last hx hb hK hP hD hS 10 2 rfl rfl hi9 (qaa qtf 6 rfl) (fun H locs hP hD hS => ?_)
  obtain ⟨f12, ef12⟩ : ∃ y : Nat → Int64, y = vp_updL f2 (0 : Int32).toNatClampNeg x11 := ⟨_, rfl⟩
  have hw := hw f12 ef12
  have hP : va_P (dC, dI) vwCl (qM7 a0 jaK jaR ja1 jcp jbc jg6 ja3 jbH jaT jbO jaq jac jbI jbl jle jba jaa jbA x1 jle jjI jkf jiE jnK x2 x3 q9 x4 x5 jnf jm0 jaT jbb jbr jaR jff jaR jcB jcC jbo jbp jbk jbj jbf jbq jbE jbm jbi jcd jbb cyI jbQ jjI cyI f6 jkf cyI f7 jg6 jiM jmr jiM cyI jk5 jiE cyI f8 a2 cyJ n2 f12) H := by rw [ef12]; exact hP
  have hD : va_D A (qM7 a0 jaK jaR ja1 jcp jbc jg6 ja3 jbH jaT jbO jaq jac jbI jbl jle jba jaa jbA x1 jle jjI jkf jiE jnK x2 x3 q9 x4 x5 jnf jm0 jaT jbb jbr jaR jff jaR jcB jcC jbo jbp jbk jbj jbf jbq jbE jbm jbi jcd jbb cyI jbQ jjI cyI f6 jkf cyI f7 jg6 jiM jmr jiM cyI jk5 jiE cyI f8 a2 cyJ n2 f12) := by rw [ef12]; exact hD
  refine lv_goto (tgt := 15) hx hb (qaa qtf 7 rfl) (by decide) ?_
  refine lv_iconst (v := 0) hx hb (qaa qtf 11 rfl) (by decide) ?_
  exact (W.widen (k := 1) (n := 6) (nbq rfl) (nbq rfl) (W.iret (v := 0) hx hb hr (fun t ht hW => ⟨⟨0, (x1, x2, x3, x4, x5, f6, f7, f8, q9, f12), rfl, hw, by rw [ht]; exact hP, va_K.moved hW.alike hK, hD⟩, hS.F ht⟩) hS.2.2 (qaa qtf 12 rfl)))
theorem qIk : ∀ w ∈ u_ws RX10 TX10 19, w ∈ wsX10_form := uiM qun qyN (by decide +kernel)
theorem q7D : ∀ w ∈ u_ws RX2 TX2 12, w ∈ wsX10_form := uiM qun qLp (by decide +kernel)
theorem qQm : (.fieldLink RX10 19 "MarchHares" "ground" "LMarchHares$Down;" : Cond) ∈ wsX10_form := qun 20 (by decide +kernel)
theorem qarr : (.fieldLink RX10 212 "MarchHares$Down" "formX" "[I" : Cond) ∈ wsX10_form := qun 2644 (by decide +kernel)
theorem qaqO : (.fieldLink RX10 216 "MarchHares$Down" "formY" "[I" : Cond) ∈ wsX10_form := qun 2645 (by decide +kernel)
theorem qaxl : (.fieldLink RX10 58 "MarchHares" "now" "LMarchHares$Days;" : Cond) ∈ wsX10_form := qun 79 (by decide +kernel)
set_option maxHeartbeats 4000000 in
set_option maxRecDepth 100000 in
theorem qaY4 (l : Launch) (dC : Nat → ClassId) (dI : Nat → Nat → Nat) (cyB cyI cyJ cyP : ClassId) (a0 jaR jaT jbb jbs jbt sz : Nat) (jaK ja1 jcp jbc jbV ja3 jbH jbO jaq jac jbI jbl jbn jba jaa jbo jbp jbk jbj jbf jbq jbi jbr jff : Value) (jbE jbm jdB : Int32) (jbQ jci jcj : NI) (jdu jbz p1 p2 : Int32) {E : String → Int32 → Int32 → Prop} {Q : Int32 → Int32 → Int32 → Prop} (hw : q9u jbE jbm jdB jbQ jci jcj jdu jbz p1 p2 E Q) : vx_Met l yX10_form wsX10_form ({ frames := 8, cells := 2, slots := 12, locals := 164 }) (va_Pc [.ref a0, .int p1, .int p2] (cPx l (dC, dI) (kT cyB cyI cyJ cyP) (qzf a0 jaK jaR ja1 jcp jbc jbV ja3 jbH jaT jbO jaq jac jbI jbl jbn jba jaa jdu jbz jaR jbs jbt jbo jbp jbk jbj jbf jbq jbE jbm jbi jdB jaT jbb jbr jaR jff jbb cyI jbQ jbs cyI jci jbt cyI jcj) sz)) (va_Qi (fun (r : Int32) (u : Int32 × Int32) => Q r u.1 u.2) (cB (dC, dI) (kT cyB cyI cyJ cyP) (va_A (qzf a0 jaK jaR ja1 jcp jbc jbV ja3 jbH jaT jbO jaq jac jbI jbl jbn jba jaa jdu jbz jaR jbs jbt jbo jbp jbk jbj jbf jbq jbE jbm jbi jdB jaT jbb jbr jaR jff jbb cyI jbQ jbs cyI jci jbt cyI jcj) sz) (fun u : Int32 × Int32 => ((qzf a0 jaK jaR ja1 jcp jbc jbV ja3 jbH jaT jbO jaq jac jbI jbl jbn jba jaa u.1 u.2 jaR jbs jbt jbo jbp jbk jbj jbf jbq jbE jbm jbi jdB jaT jbb jbr jaR jff jbb cyI jbQ jbs cyI jci jbt cyI jcj) : va_W))) (va_A (qzf a0 jaK jaR ja1 jcp jbc jbV ja3 jbH jaT jbO jaq jac jbI jbl jbn jba jaa jdu jbz jaR jbs jbt jbo jbp jbk jbj jbf jbq jbE jbm jbi jdB jaT jbb jbr jaR jff jbb cyI jbQ jbs cyI jci jbt cyI jcj) sz)) (vx_X (fun _ => True) (fun (en : String) (u : Int32 × Int32) (t : State) => E en u.1 u.2 ∧ cB (dC, dI) (kT cyB cyI cyJ cyP) (va_A (qzf a0 jaK jaR ja1 jcp jbc jbV ja3 jbH jaT jbO jaq jac jbI jbl jbn jba jaa jdu jbz jaR jbs jbt jbo jbp jbk jbj jbf jbq jbE jbm jbi jdB jaT jbb jbr jaR jff jbb cyI jbQ jbs cyI jci jbt cyI jcj) sz) (fun u : Int32 × Int32 => ((qzf a0 jaK jaR ja1 jcp jbc jbV ja3 jbH jaT jbO jaq jac jbI jbl jbn jba jaa u.1 u.2 jaR jbs jbt jbo jbp jbk jbj jbf jbq jbE jbm jbi jdB jaT jbb jbr jaR jff jbb cyI jbQ jbs cyI jci jbt cyI jcj) : va_W)) u t) (va_A (qzf a0 jaK jaR ja1 jcp jbc jbV ja3 jbH jaT jbO jaq jac jbI jbl jbn jba jaa jdu jbz jaR jbs jbt jbo jbp jbk jbj jbf jbq jbE jbm jbi jdB jaT jbb jbr jaR jff jbb cyI jbQ jbs cyI jci jbt cyI jcj) sz)) 2 12 (va_A (qzf a0 jaK jaR ja1 jcp jbc jbV ja3 jbH jaT jbO jaq jac jbI jbl jbn jba jaa jdu jbz jaR jbs jbt jbo jbp jbk jbj jbf jbq jbE jbm jbi jdB jaT jbb jbr jaR jff jbb cyI jbQ jbs cyI jci jbt cyI jcj) sz) := by
  refine vx_ofW (cc := cX10_form) (maxL := 3) (ret := (some .int)) (by decide) rfl ?_
  intro p e s m args below meth c s₁ B hml hnt hv
  obtain ⟨rfl, hsz, hP, hK, hD0, hNw, hXl, hXu, hXn, hXt⟩ := hv
  have hx := B.exec
  have hb := B.bytes
  have hr := B.returns
  have hts := atoms_spec (ws := wsX10_form) B.pre
  have hown : s.vm.findClass RX10 = some m.cls := findClass_of_methodNamed B.named
  have hlocks := B.notSynchronized
  subst hsz
  have hD := hD0.self (sz := s.heap.size)
  generalize hAe : va_A (qzf a0 jaK jaR ja1 jcp jbc jbV ja3 jbH jaT jbO jaq jac jbI jbl jbn jba jaa jdu jbz jaR jbs jbt jbo jbp jbk jbj jbf jbq jbE jbm jbi jdB jaT jbb jbr jaR jff jbb cyI jbQ jbs cyI jci jbt cyI jcj) s.heap.size = A at hD hXu hXn ⊢
  have hA : ∀ q : Nat, s.heap.size ≤ q → A q := fun q h => by rw [← hAe]; exact Or.inr h
  have hS : va_S A s.heap s.heap [] := va_S.rf
  have hP : va_P (dC, dI) vwCl (qzf a0 jaK jaR ja1 jcp jbc jbV ja3 jbH jaT jbO jaq jac jbI jbl jbn jba jaa jdu jbz jaR jbs jbt jbo jbp jbk jbj jbf jbq jbE jbm jbi jdB jaT jbb jbr jaR jff jbb cyI jbQ jbs cyI jci jbt cyI jcj) s.heap := hP
  have hl := lv_entry ([.ref a0, .int p1, .int p2]) (n := 3) (nbq rfl)
  rw [lg_entry_eq]
  generalize (lg_sl ([.ref a0, .int p1, .int p2]) ++ List.replicate (3 - (lg_sl ([.ref a0, .int p1, .int p2])).length) Slot.unset).toArray = ls at hl ⊢
  have hl : lv_has ls 3 [(0, .ref a0), (1, .int p1), (2, .int p2)] := hl
  have hY : cfY l s A := ⟨hXl, hXu, hXn, hXt⟩
  have hXs : cfX l s c A := ⟨hnt, hY⟩
  have C0 : cfx p s m _ meth c cX10_form (some .int) wsX10_form RX10 3 A (dC, dI) (kT cyB cyI cyJ cyP) ∧ cfX l s c A := ⟨⟨hx, hb, hr, hts, hown, hlocks, hml, hA, hK, hNw⟩, hXs⟩
  clear hAe
  obtain ⟨H, hH⟩ : ∃ H, H = s.heap := ⟨_, rfl⟩
  rw [← hH] at hP ⊢
  have hS : va_S A s.heap H [] := by rw [hH]; exact va_S.rf
  have hS := hS
  refine lv_aload_n hx hb (qaa qu4 0 rfl) rfl (lv_at hl 0 rfl) ?_
  refine lv_iload_n hx hb (qaa qu4 1 rfl) rfl (lv_at hl 1 rfl) ?_
  obtain ⟨hCc, hPc, hDc, hFc⟩ := qac (ws' := (qaXr a0 jaK jaR ja1 jcp jbc jbV ja3 jbH jaT jbO jaq jac jbI jbl jbn jba jaa jdu jbz jaR jbs jbt jbo jbp jbk jbj jbf jbq jbE jbm jbi jdB)) hP hD hS hA [0, 1] (by decide +kernel) rfl
  refine vx_callv (vx_runV (As := [.int p1]) (rest := []) ⟨hx, hb, hml, hown, hts⟩ (qyj l dC dI cyB cyI cyJ cyP a0 jaR H.size (jaK) (ja1) (jcp) (jbc) (jbV) (ja3) (jbH) (.ref jaT) (jbO) (jaq) (jac) (jbI) (jbl) (jbn) (jba) (jaa) (.int jbz) (.ref jbs) (.ref jbt) (jbo) (jbp) (jbk) (jbj) (jbf) (jbq) (.int jbm) (jbi) (.int jdB) jbE jdu p1 hw) (cwV 1 hts gX10_form_X10_needForm rfl rfl rfl (by decide +kernel) ⟨nbq rfl, nbq rfl⟩) ⟨qav, va_recv (q := (RX10, TX10, 19)) hK hPc (ci := 10) (q0 := 0) rfl rfl, qbl hPc hK hDc hNw hY hS hFc⟩ rfl rfl hl.1 rfl (lv_room (nbq rfl)) (qaa qu4 2 rfl) ⟨nbq rfl, nbq rfl⟩) hS (fun q _ h => hFc q h) hFc (fun q _ h => hFc q h) (fun en ce q9 u t H1 locs ht hvm hpx hB hz1 hk1 hS hc9 hv9 hcl9 => ?_) (fun u t H1 locs ht hvm hw hB hz1 hk1 hS => ?_)
  · obtain ⟨x1, rfl⟩ : ∃ z, z = u := ⟨_, rfl⟩
    obtain ⟨hw, hP1, hK1, hD1⟩ := hB
    rw [ht] at hP1
    obtain ⟨hP, hD⟩ := qad (wr := (qa9D jaT jbb jbr jaR jff jbb cyI jbQ jbs cyI jci jbt cyI jcj)) (w1 := (qaXr a0 jaK jaR ja1 jcp jbc jbV ja3 jbH jaT jbO jaq jac jbI jbl jbn jba jaa x1 jbz jaR jbs jbt jbo jbp jbk jbj jbf jbq jbE jbm jbi jdB)) (wn := (qzf a0 jaK jaR ja1 jcp jbc jbV ja3 jbH jaT jbO jaq jac jbI jbl jbn jba jaa x1 jbz jaR jbs jbt jbo jbp jbk jbj jbf jbq jbE jbm jbi jdB jaT jbb jbr jaR jff jbb cyI jbQ jbs cyI jci jbt cyI jcj)) hP hD [0, 1] [2, 3, 4, 5] [4, 5, 0, 1, 2, 3] hCc rfl (by decide +kernel) (by decide +kernel) (by decide +kernel) rfl hk1 hFc hP1 hD1
    generalize H1 = H at hP hS hc9 ⊢
    exact vx_out (fun x hx9 => (hXs.1 x hx9).elim) hlocks hc9 hv9 hcl9 (fun t2 ht2 hal2 => ⟨(x1, jbz), trivial, ⟨hw, by rw [ht2]; exact hP, va_K.moved hal2 hK, hD⟩, hS.F ht2⟩) hS.2.2 (nbq rfl) (nbq rfl)
  obtain ⟨x1, rfl⟩ : ∃ z, z = u := ⟨_, rfl⟩
  obtain ⟨hP1, hK1, hD1⟩ := hB
  rw [ht] at hP1
  obtain ⟨hP, hD⟩ := qad (wr := (qa9D jaT jbb jbr jaR jff jbb cyI jbQ jbs cyI jci jbt cyI jcj)) (w1 := (qaXr a0 jaK jaR ja1 jcp jbc jbV ja3 jbH jaT jbO jaq jac jbI jbl jbn jba jaa x1 jbz jaR jbs jbt jbo jbp jbk jbj jbf jbq jbE jbm jbi jdB)) (wn := (qzf a0 jaK jaR ja1 jcp jbc jbV ja3 jbH jaT jbO jaq jac jbI jbl jbn jba jaa x1 jbz jaR jbs jbt jbo jbp jbk jbj jbf jbq jbE jbm jbi jdB jaT jbb jbr jaR jff jbb cyI jbQ jbs cyI jci jbt cyI jcj)) hP hD [0, 1] [2, 3, 4, 5] [4, 5, 0, 1, 2, 3] hCc rfl (by decide +kernel) (by decide +kernel) (by decide +kernel) rfl hk1 hFc hP1 hD1
  generalize H1 = H at hP hS ⊢
  refine lv_aload_n hx hb (qaa qu4 3 rfl) rfl (lv_at hl 0 rfl) ?_
  refine lv_iload_n hx hb (qaa qu4 4 rfl) rfl (lv_at hl 2 rfl) ?_
  refine lv_iconst (v := 0) hx hb (qaa qu4 5 rfl) (by decide) ?_
  refine lv_iconst (v := 3) hx hb (qaa qu4 6 rfl) (by decide) ?_
  obtain ⟨hCc, hPc, hDc, hFc⟩ := qac (ws' := (qalI a0 jaK jaR ja1 jcp jbc jbV ja3 jbH jaT jbO jaq jac jbI jbl jbn jba jaa x1 jbz)) hP hD hS hA [0] (by decide +kernel) rfl
  refine vx_callv (vx_runV (As := [.int p2, .int 0, .int 3]) (rest := []) ⟨hx, hb, hml, hown, hts⟩ (qaV l dC dI cyB cyI cyJ cyP a0 H.size (jaK) (.ref jaR) (ja1) (jcp) (jbc) (jbV) (ja3) (jbH) (.ref jaT) (jbO) (jaq) (jac) (jbI) (jbl) (jbn) (jba) (jaa) (.int x1) jbz p2 0 3 hw) (cwV 3 hts gX10_form_X10_needWithin rfl rfl rfl (by decide +kernel) ⟨nbq rfl, nbq rfl⟩) ⟨qav, va_recv (q := (RX10, TX10, 19)) hK hPc (ci := 10) (q0 := 0) rfl rfl, qbl hPc hK hDc hNw hY hS hFc⟩ rfl rfl hl.1 rfl (lv_room (nbq rfl)) (qaa qu4 7 rfl) ⟨nbq rfl, nbq rfl⟩) hS (fun q _ h => hFc q h) hFc (fun q _ h => hFc q h) (fun en ce q9 u t H1 locs ht hvm hpx hB hz1 hk1 hS hc9 hv9 hcl9 => ?_) (fun u t H1 locs ht hvm hw hB hz1 hk1 hS => ?_)
  · obtain ⟨x2, rfl⟩ : ∃ z, z = u := ⟨_, rfl⟩
    obtain ⟨hw, hP1, hK1, hD1⟩ := hB
    rw [ht] at hP1
    obtain ⟨hP, hD⟩ := qad (wr := (qa4i jaR jbs jbt jbo jbp jbk jbj jbf jbq jbE jbm jbi jdB jaT jbb jbr jaR jff jbb cyI jbQ jbs cyI jci jbt cyI jcj)) (w1 := (qalI a0 jaK jaR ja1 jcp jbc jbV ja3 jbH jaT jbO jaq jac jbI jbl jbn jba jaa x1 x2)) (wn := (qzf a0 jaK jaR ja1 jcp jbc jbV ja3 jbH jaT jbO jaq jac jbI jbl jbn jba jaa x1 x2 jaR jbs jbt jbo jbp jbk jbj jbf jbq jbE jbm jbi jdB jaT jbb jbr jaR jff jbb cyI jbQ jbs cyI jci jbt cyI jcj)) hP hD [0] [1, 2, 3, 4, 5] [5, 0, 1, 2, 3, 4] hCc rfl (by decide +kernel) (by decide +kernel) (by decide +kernel) rfl hk1 hFc hP1 hD1
    generalize H1 = H at hP hS hc9 ⊢
    exact vx_out (fun x hx9 => (hXs.1 x hx9).elim) hlocks hc9 hv9 hcl9 (fun t2 ht2 hal2 => ⟨(x1, x2), trivial, ⟨hw, by rw [ht2]; exact hP, va_K.moved hal2 hK, hD⟩, hS.F ht2⟩) hS.2.2 (nbq rfl) (nbq rfl)
  obtain ⟨x2, rfl⟩ : ∃ z, z = u := ⟨_, rfl⟩
  obtain ⟨hP1, hK1, hD1⟩ := hB
  rw [ht] at hP1
  obtain ⟨hP, hD⟩ := qad (wr := (qa4i jaR jbs jbt jbo jbp jbk jbj jbf jbq jbE jbm jbi jdB jaT jbb jbr jaR jff jbb cyI jbQ jbs cyI jci jbt cyI jcj)) (w1 := (qalI a0 jaK jaR ja1 jcp jbc jbV ja3 jbH jaT jbO jaq jac jbI jbl jbn jba jaa x1 x2)) (wn := (qzf a0 jaK jaR ja1 jcp jbc jbV ja3 jbH jaT jbO jaq jac jbI jbl jbn jba jaa x1 x2 jaR jbs jbt jbo jbp jbk jbj jbf jbq jbE jbm jbi jdB jaT jbb jbr jaR jff jbb cyI jbQ jbs cyI jci jbt cyI jcj)) hP hD [0] [1, 2, 3, 4, 5] [5, 0, 1, 2, 3, 4] hCc rfl (by decide +kernel) (by decide +kernel) (by decide +kernel) rfl hk1 hFc hP1 hD1
  generalize H1 = H at hP hS ⊢
  refine lv_iload_n hx hb (qaa qu4 8 rfl) rfl (lv_at hl 2 rfl) ?_
  by_cases c3 : p2.toInt < 0 ∨ 2 < p2.toInt
  · have hw := hw.1 c3
    refine lv_tableOut (tgt := 77) hx hb dX10_form_13 c3 (by decide) ?_
    refine lv_aload_n hx hb (qaa qqA 5 rfl) rfl (lv_at hl 0 rfl) ?_
    refine va_get (D := (dC, dI)) (ci := 10) (v := .ref jaT) (C := RX10) (T := TX10) (N := 19) hx hb hts qIk hown hK hP 0 rfl rfl 8 (by decide) (hts _ qaxl) (fun _ h9 => h9) rfl (qaa qqA 6 rfl) ?_
    refine lv_iload_n hx hb (qaa qqA 7 rfl) rfl (lv_at hl 1 rfl) ?_
    obtain ⟨hCc, hPc, hDc, hFc⟩ := qac (ws' := (qa4P jaT jbb jbr jaR jff jaR jbs jbt jbo jbp jbk jbj jbf jbq jbE jbm jbi jdB jbb cyI jbQ)) hP hD hS hA [2, 1, 3] (by decide +kernel) rfl
    refine va_calli (va_runV (As := [.int p1]) (rest := []) ⟨hx, hb, hml, hown, hts⟩ (qTq l dC dI cyB cyI cyJ cyP jaT jaR jbb H.size (jbr) (jff) (.ref jbs) (.ref jbt) (jbo) (jbp) (jbk) (jbj) (jbf) (jbq) (.int jbE) (jbi) (.int jdB) jbm jbQ p1 hw) (cwV 1 hts gX10_form_X1_seatedIn rfl rfl rfl (by decide +kernel) ⟨nbq rfl, nbq rfl⟩) ⟨qab, va_recv (q := (RX1, TX1, 4)) hK hPc (ci := 1) (q0 := 0) rfl rfl, qae hPc hK hDc hNw⟩ rfl rfl hl.1 rfl (lv_room (nbq rfl)) (qaa qqA 8 rfl) ⟨nbq rfl, nbq rfl⟩) hS (fun q _ h => hFc q h) hFc (fun r4 u t H1 locs ht hvm hw hB hz1 hk1 hS => ?_)
    obtain ⟨hP1, hK1, hD1⟩ := hB
    rw [ht] at hP1
    obtain ⟨hP, hD⟩ := qad (wr := [(a0, .inr (10, [jaK, .ref jaR, ja1, jcp, jbc, jbV, ja3, jbH, .ref jaT, jbO, jaq, jac, jbI, jbl, jbn, jba, jaa, .int x1, .int x2])), (jbs, .inl (cyI, 8, .inl jci)), (jbt, .inl (cyI, 8, .inl jcj))]) (w1 := (qa4P jaT jbb jbr jaR jff jaR jbs jbt jbo jbp jbk jbj jbf jbq jbE jbm jbi jdB jbb cyI jbQ)) (wn := (qzf a0 jaK jaR ja1 jcp jbc jbV ja3 jbH jaT jbO jaq jac jbI jbl jbn jba jaa x1 x2 jaR jbs jbt jbo jbp jbk jbj jbf jbq jbE jbm jbi jdB jaT jbb jbr jaR jff jbb cyI jbQ jbs cyI jci jbt cyI jcj)) hP hD [2, 1, 3] [0, 4, 5] [0, 4, 3, 5, 1, 2] hCc rfl (by decide +kernel) (by decide +kernel) (by decide +kernel) rfl hk1 hFc hP1 hD1
    generalize H1 = H at hP hS ⊢
    exact vx_ret (W.widen (k := 2) (n := 12) (nbq rfl) (nbq rfl) (W.iret (v := r4) hx hb hr (fun t ht hW => ⟨⟨r4, (x1, x2), rfl, hw, by rw [ht]; exact hP, va_K.moved hW.alike hK, hD⟩, hS.F ht⟩) hS.2.2 (qaa qqA 9 rfl)))
  · have hw := hw.2
    rcases qaw0 c3 with c3 | c3 | c3
    · have hw := hw.1 c3
      refine lv_tableIn (tgt := 40) (off := 27) hx hb dX10_form_13 (by rw [c3]; decide) (by rw [c3]; decide) (by rw [c3]; decide) (by decide) ?_
      refine lv_aload_n hx hb (qaa qkn 0 rfl) rfl (lv_at hl 0 rfl) ?_
      refine va_get (D := (dC, dI)) (ci := 10) (v := .ref jaR) (C := RX10) (T := TX10) (N := 19) hx hb hts qIk hown hK hP 0 rfl rfl 1 (by decide) (hts _ qQm) (fun _ h9 => h9) rfl (qaa qkn 1 rfl) ?_
      refine va_get (D := (dC, dI)) (ci := 2) (v := .ref jbs) (C := RX2) (T := TX2) (N := 12) hx hb hts q7D hown hK hP 1 rfl rfl 0 (by decide) (hts _ qarr) (fun _ h9 => h9) rfl (qaa qkn 2 rfl) ?_
      refine lv_iload_n hx hb (qaa qkn 3 rfl) rfl (lv_at hl 1 rfl) ?_
      obtain ⟨hi9, hw⟩ := hw
      refine va_iald hx hb hK hP 4 1 rfl rfl hi9 (qaa qkn 4 rfl) ?_
      refine lv_topi (fun x5 ex5 => ?_)
      have hw := hw x5 ex5
      exact vx_ret (W.widen (k := 2) (n := 12) (nbq rfl) (nbq rfl) (W.iret (v := x5) hx hb hr (fun t ht hW => ⟨⟨x5, (x1, x2), rfl, hw, by rw [ht]; exact hP, va_K.moved hW.alike hK, hD⟩, hS.F ht⟩) hS.2.2 (qaa qkn 5 rfl)))
    · have hw := hw.2.1 c3
      refine lv_tableIn (tgt := 50) (off := 37) hx hb dX10_form_13 (by rw [c3]; decide) (by rw [c3]; decide) (by rw [c3]; decide) (by decide) ?_
      refine lv_aload_n hx hb (qaa qkn 6 rfl) rfl (lv_at hl 0 rfl) ?_
      refine va_get (D := (dC, dI)) (ci := 10) (v := .ref jaR) (C := RX10) (T := TX10) (N := 19) hx hb hts qIk hown hK hP 0 rfl rfl 1 (by decide) (hts _ qQm) (fun _ h9 => h9) rfl (qaa qkn 7 rfl) ?_
      refine va_get (D := (dC, dI)) (ci := 2) (v := .ref jbt) (C := RX2) (T := TX2) (N := 12) hx hb hts q7D hown hK hP 1 rfl rfl 1 (by decide) (hts _ qaqO) (fun _ h9 => h9) rfl (qaa qkn 8 rfl) ?_
      refine lv_iload_n hx hb (qaa qkn 9 rfl) rfl (lv_at hl 1 rfl) ?_
      obtain ⟨hi9, hw⟩ := hw
      refine va_iald hx hb hK hP 5 1 rfl rfl hi9 (qaa qkn 10 rfl) ?_
      refine lv_topi (fun x6 ex6 => ?_)
      have hw := hw x6 ex6
      exact vx_ret (W.widen (k := 2) (n := 12) (nbq rfl) (nbq rfl) (W.iret (v := x6) hx hb hr (fun t ht hW => ⟨⟨x6, (x1, x2), rfl, hw, by rw [ht]; exact hP, va_K.moved hW.alike hK, hD⟩, hS.F ht⟩) hS.2.2 (qaa qkn 11 rfl)))
    · have hw := hw.2.2 c3
      refine lv_tableIn (tgt := 60) (off := 47) hx hb dX10_form_13 (by rw [c3]; decide) (by rw [c3]; decide) (by rw [c3]; decide) (by decide) ?_
      refine lv_aload_n hx hb (qaa qkn 12 rfl) rfl (lv_at hl 0 rfl) ?_
      refine va_get (D := (dC, dI)) (ci := 10) (v := .ref jaR) (C := RX10) (T := TX10) (N := 19) hx hb hts qIk hown hK hP 0 rfl rfl 1 (by decide) (hts _ qQm) (fun _ h9 => h9) rfl (qaa qkn 13 rfl) ?_
      refine lv_iload_n hx hb (qaa qkn 14 rfl) rfl (lv_at hl 1 rfl) ?_
      obtain ⟨hCc, hPc, hDc, hFc⟩ := qac (ws' := (qa9y jaR jbs jbt jbo jbp jbk jbj jbf jbq jbE jbm jbi jdB)) hP hD hS hA [1] (by decide +kernel) rfl
      refine va_calli (va_runV (As := [.int p1]) (rest := []) ⟨hx, hb, hml, hown, hts⟩ (q30 l dC dI cyB cyI cyJ cyP jaR H.size (.ref jbs) (.ref jbt) (jbo) (jbp) (jbk) (jbj) (jbf) (jbq) (.int jbE) (.int jbm) (jbi) jdB p1 hw) (cwV 1 hts gX10_form_X2_isSafe rfl rfl rfl (by decide +kernel) ⟨nbq rfl, nbq rfl⟩) ⟨qab, va_recv (q := (RX2, TX2, 12)) hK hPc (ci := 2) (q0 := 0) rfl rfl, qae hPc hK hDc hNw⟩ rfl rfl hl.1 rfl (lv_room (nbq rfl)) (qaa qkn 15 rfl) ⟨nbq rfl, nbq rfl⟩) hS (fun q _ h => hFc q h) hFc (fun r7 u t H1 locs ht hvm hw hB hz1 hk1 hS => ?_)
      obtain ⟨hP1, hK1, hD1⟩ := hB
      rw [ht] at hP1
      obtain ⟨hP, hD⟩ := qad (wr := [(a0, .inr (10, [jaK, .ref jaR, ja1, jcp, jbc, jbV, ja3, jbH, .ref jaT, jbO, jaq, jac, jbI, jbl, jbn, jba, jaa, .int x1, .int x2])), (jaT, .inr (1, [.ref jbb, jbr, .ref jaR, jff])), (jbb, .inl (cyI, 64, .inl jbQ)), (jbs, .inl (cyI, 8, .inl jci)), (jbt, .inl (cyI, 8, .inl jcj))]) (w1 := (qa9y jaR jbs jbt jbo jbp jbk jbj jbf jbq jbE jbm jbi jdB)) (wn := (qzf a0 jaK jaR ja1 jcp jbc jbV ja3 jbH jaT jbO jaq jac jbI jbl jbn jba jaa x1 x2 jaR jbs jbt jbo jbp jbk jbj jbf jbq jbE jbm jbi jdB jaT jbb jbr jaR jff jbb cyI jbQ jbs cyI jci jbt cyI jcj)) hP hD [1] [0, 2, 3, 4, 5] [0, 5, 1, 2, 3, 4] hCc rfl (by decide +kernel) (by decide +kernel) (by decide +kernel) rfl hk1 hFc hP1 hD1
      generalize H1 = H at hP hS ⊢
      refine lv_if_eq (tgt := 75) hx hb (qaa qqA 0 rfl) (by decide) (fun c8 => ?_) (fun c8 => ?_)
      · have hw := hw.1 c8
        refine lv_iconst (v := 0) hx hb (qaa qqA 3 rfl) (by decide) ?_
        exact vx_ret (W.widen (k := 2) (n := 12) (nbq rfl) (nbq rfl) (W.iret (v := 0) hx hb hr (fun t ht hW => ⟨⟨0, (x1, x2), rfl, hw, by rw [ht]; exact hP, va_K.moved hW.alike hK, hD⟩, hS.F ht⟩) hS.2.2 (qaa qqA 4 rfl)))
      · have hw := hw.2 c8
        refine lv_iconst (v := 1) hx hb (qaa qqA 1 rfl) (by decide) ?_
        refine lv_goto (tgt := 76) hx hb (qaa qqA 2 rfl) (by decide) ?_
        exact vx_ret (W.widen (k := 2) (n := 12) (nbq rfl) (nbq rfl) (W.iret (v := 1) hx hb hr (fun t ht hW => ⟨⟨1, (x1, x2), rfl, hw, by rw [ht]; exact hP, va_K.moved hW.alike hK, hD⟩, hS.F ht⟩) hS.2.2 (qaa qqA 4 rfl)))
theorem qaHl : (.classLink RL 13 "java/lang/IllegalArgumentException" : Cond) ∈ wsL_form := qacC 595 (by decide +kernel)
theorem q8f : (.classLink RL 31 "java/util/NoSuchElementException" : Cond) ∈ wsL_form := qacC 2639 (by decide +kernel)
theorem qaTl : (.codeWith yL_form cL_form 5 (some .int) [(0, 10, 13, 31), (0, 10, 17, 13)] : Cond) ∈ wsL_form := qacC 2638 (by decide +kernel)
set_option maxHeartbeats 4000000 in
set_option maxRecDepth 100000 in
theorem qa8Y (l : Launch) (dC : Nat → ClassId) (dI : Nat → Nat → Nat) (cyB cyI cyJ cyP : ClassId) (a0 a3 jaR jaT jbb jbs jbt sz : Nat) (jaK ja1 jcp jbc jbV ja3 jbH jbO jaq jac jbI jbl jbn jba jaa jbo jbp jbk jbj jbf jbq jbi jbr jff : Value) (n3 : Nat) (jbE jbm jdB : Int32) (jbQ jci jcj : NI) (jdu jbz : Int32) (f3 : Nat → Int64) (p1 p2 : Int32) {Q : Int32 → Int32 → Int32 → (Nat → Int64) → Prop} (hw : qaVb n3 jbE jbm jdB jbQ jci jcj jdu jbz f3 p1 p2 Q) : Met l yL_form wsL_form ({ frames := 9, cells := 2, slots := 12, locals := 186 }) (va_Pc [.ref a0, .int p1, .int p2, .ref a3] (cPx l (dC, dI) (kT cyB cyI cyJ cyP) (qMO a0 jaK jaR ja1 jcp jbc jbV ja3 jbH jaT jbO jaq jac jbI jbl jbn jba jaa jdu jbz jaR jbs jbt jbo jbp jbk jbj jbf jbq jbE jbm jbi jdB jaT jbb jbr jaR jff jbb cyI jbQ jbs cyI jci jbt cyI jcj a3 cyJ n3 f3) sz)) (va_Qi (fun (r : Int32) (u : Int32 × Int32 × (Nat → Int64)) => Q r u.1 u.2.1 u.2.2) (cB (dC, dI) (kT cyB cyI cyJ cyP) (va_A (qMO a0 jaK jaR ja1 jcp jbc jbV ja3 jbH jaT jbO jaq jac jbI jbl jbn jba jaa jdu jbz jaR jbs jbt jbo jbp jbk jbj jbf jbq jbE jbm jbi jdB jaT jbb jbr jaR jff jbb cyI jbQ jbs cyI jci jbt cyI jcj a3 cyJ n3 f3) sz) (fun u : Int32 × Int32 × (Nat → Int64) => ((qMO a0 jaK jaR ja1 jcp jbc jbV ja3 jbH jaT jbO jaq jac jbI jbl jbn jba jaa u.1 u.2.1 jaR jbs jbt jbo jbp jbk jbj jbf jbq jbE jbm jbi jdB jaT jbb jbr jaR jff jbb cyI jbQ jbs cyI jci jbt cyI jcj a3 cyJ n3 u.2.2) : va_W))) (va_A (qMO a0 jaK jaR ja1 jcp jbc jbV ja3 jbH jaT jbO jaq jac jbI jbl jbn jba jaa jdu jbz jaR jbs jbt jbo jbp jbk jbj jbf jbq jbE jbm jbi jdB jaT jbb jbr jaR jff jbb cyI jbQ jbs cyI jci jbt cyI jcj a3 cyJ n3 f3) sz)) 2 12 (va_A (qMO a0 jaK jaR ja1 jcp jbc jbV ja3 jbH jaT jbO jaq jac jbI jbl jbn jba jaa jdu jbz jaR jbs jbt jbo jbp jbk jbj jbf jbq jbE jbm jbi jdB jaT jbb jbr jaR jff jbb cyI jbQ jbs cyI jci jbt cyI jcj a3 cyJ n3 f3) sz) := by
  refine va_MetW (cc := cL_form) (maxL := 5) (ret := (some .int)) (by decide) rfl ?_
  intro p e s m args below meth c s₁ B hml hv
  obtain ⟨rfl, hsz, hP, hK, hD0, hNw, hXl, hXu, hXn, hXt⟩ := hv
  have hx := B.exec
  have hb := B.bytes
  have hr := B.returns
  have hts := atoms_spec (ws := wsL_form) B.pre
  have hown : s.vm.findClass RL = some m.cls := findClass_of_methodNamed B.named
  have hlocks := B.notSynchronized
  subst hsz
  have hD := hD0.self (sz := s.heap.size)
  generalize hAe : va_A (qMO a0 jaK jaR ja1 jcp jbc jbV ja3 jbH jaT jbO jaq jac jbI jbl jbn jba jaa jdu jbz jaR jbs jbt jbo jbp jbk jbj jbf jbq jbE jbm jbi jdB jaT jbb jbr jaR jff jbb cyI jbQ jbs cyI jci jbt cyI jcj a3 cyJ n3 f3) s.heap.size = A at hD hXu hXn ⊢
  have hA : ∀ q : Nat, s.heap.size ≤ q → A q := fun q h => by rw [← hAe]; exact Or.inr h
  have hS : va_S A s.heap s.heap [] := va_S.rf
  have hP : va_P (dC, dI) vwCl (qMO a0 jaK jaR ja1 jcp jbc jbV ja3 jbH jaT jbO jaq jac jbI jbl jbn jba jaa jdu jbz jaR jbs jbt jbo jbp jbk jbj jbf jbq jbE jbm jbi jdB jaT jbb jbr jaR jff jbb cyI jbQ jbs cyI jci jbt cyI jcj a3 cyJ n3 f3) s.heap := hP
  have hl := lv_entry ([.ref a0, .int p1, .int p2, .ref a3]) (n := 5) (nbq rfl)
  rw [lg_entry_eq]
  generalize (lg_sl ([.ref a0, .int p1, .int p2, .ref a3]) ++ List.replicate (5 - (lg_sl ([.ref a0, .int p1, .int p2, .ref a3])).length) Slot.unset).toArray = ls at hl ⊢
  have hl : lv_has ls 5 [(0, .ref a0), (1, .int p1), (2, .int p2), (3, .ref a3)] := hl
  have hY : cfY l s A := ⟨hXl, hXu, hXn, hXt⟩
  have hTb := vx_table (x := yL_form) B (hts _ qaTl)
  clear hAe
  obtain ⟨H, hH⟩ : ∃ H, H = s.heap := ⟨_, rfl⟩
  rw [← hH] at hP ⊢
  have hS : va_S A s.heap H [] := by rw [hH]; exact va_S.rf
  have hS := hS
  refine lv_aload_n hx hb (qaa qqa 0 rfl) rfl (lv_at hl 3 rfl) ?_
  refine lv_iconst (v := 0) hx hb (qaa qqa 1 rfl) (by decide) ?_
  refine lv_aload_n hx hb (qaa qqa 2 rfl) rfl (lv_at hl 0 rfl) ?_
  refine lv_iload_n hx hb (qaa qqa 3 rfl) rfl (lv_at hl 1 rfl) ?_
  refine lv_iload_n hx hb (qaa qqa 4 rfl) rfl (lv_at hl 2 rfl) ?_
  obtain ⟨hCc, hPc, hDc, hFc⟩ := qac (ws' := (qzf a0 jaK jaR ja1 jcp jbc jbV ja3 jbH jaT jbO jaq jac jbI jbl jbn jba jaa jdu jbz jaR jbs jbt jbo jbp jbk jbj jbf jbq jbE jbm jbi jdB jaT jbb jbr jaR jff jbb cyI jbQ jbs cyI jci jbt cyI jcj)) hP hD hS hA [0, 1, 2, 3, 4, 5] (by decide +kernel) rfl
  refine vx_calli (vx_runV (As := [.int p1, .int p2]) (rest := [.int 0, .ref a3]) ⟨hx, hb, hml, hown, hts⟩ (qaY4 l dC dI cyB cyI cyJ cyP a0 jaR jaT jbb jbs jbt H.size (jaK) (ja1) (jcp) (jbc) (jbV) (ja3) (jbH) (jbO) (jaq) (jac) (jbI) (jbl) (jbn) (jba) (jaa) (jbo) (jbp) (jbk) (jbj) (jbf) (jbq) (jbi) (jbr) (jff) jbE jbm jdB jbQ jci jcj jdu jbz p1 p2 hw) (cwV 2 hts gL_form_X10_form rfl rfl rfl (by decide +kernel) ⟨nbq rfl, nbq rfl⟩) ⟨qav, va_recv (q := (RX10, TX10, 19)) hK hPc (ci := 10) (q0 := 0) rfl rfl, qbl hPc hK hDc hNw hY hS hFc⟩ rfl rfl hl.1 rfl (lv_room (nbq rfl)) (qaa qqa 5 rfl) ⟨nbq rfl, nbq rfl⟩) hS (fun q _ h => hFc q h) hFc (fun q _ h => hFc q h) (fun en ce qx9 u t H1 locs ht hvm hpx hB hz1 hk1 hS hc9 hv9 hcl9 => ?_) (fun r3 u t H1 locs ht hvm hw hB hz1 hk1 hS => ?_)
  · obtain ⟨x1, x2⟩ := u
    obtain ⟨hw, hP1, hK1, hD1⟩ := hB
    rw [ht] at hP1
    obtain ⟨hP, hD⟩ := qad (wr := [(a3, .inl (cyJ, n3, .inr (.inl f3)))]) (w1 := (qzf a0 jaK jaR ja1 jcp jbc jbV ja3 jbH jaT jbO jaq jac jbI jbl jbn jba jaa x1 x2 jaR jbs jbt jbo jbp jbk jbj jbf jbq jbE jbm jbi jdB jaT jbb jbr jaR jff jbb cyI jbQ jbs cyI jci jbt cyI jcj)) (wn := (qMO a0 jaK jaR ja1 jcp jbc jbV ja3 jbH jaT jbO jaq jac jbI jbl jbn jba jaa x1 x2 jaR jbs jbt jbo jbp jbk jbj jbf jbq jbE jbm jbi jdB jaT jbb jbr jaR jff jbb cyI jbQ jbs cyI jci jbt cyI jcj a3 cyJ n3 f3)) hP hD [0, 1, 2, 3, 4, 5] [6] [1, 2, 3, 4, 5, 6, 0] hCc rfl (by decide +kernel) (by decide +kernel) (by decide +kernel) rfl hk1 hFc hP1 hD1
    generalize H1 = H at hP hS hc9 ⊢
    rcases hw with ⟨rfl, hw⟩ | ⟨rfl, hw⟩
    · refine vx_catch (own := RL) (name := "java/util/NoSuchElementException") hown [] ⟨0, 10, 13, 31⟩ [⟨0, 10, 17, 13⟩] (hTb.trans rfl) (fun z hz => nomatch hz) (by decide) (by decide) (hts _ q8f) (va_Nw.use rfl (hY.2.2.2.1.2 _ (List.mem_of_getElem? (i := 1) rfl))) hc9 hv9 hcl9 ?_
      refine lv_astore (lv' := [(4, .ref qx9), (0, .ref a0), (1, .int p1), (2, .int p2), (3, .ref a3)]) hx hb (qaa qqa 9 rfl) hl (by decide) rfl (fun ls hl => ?_)
      refine lv_iconst (v := 1) hx hb (qaa qqa 10 rfl) (by decide) ?_
      exact (W.widen (k := 2) (n := 12) (nbq rfl) (nbq rfl) (W.iret (v := 1) hx hb hr (fun t ht hW => ⟨⟨1, (x1, x2, f3), rfl, hw, by rw [ht]; exact hP, va_K.moved hW.alike hK, hD⟩, hS.F ht⟩) hS.2.2 (qaa qqa 11 rfl)))
    · refine vx_catch (own := RL) (name := "java/lang/IllegalArgumentException") hown [⟨0, 10, 13, 31⟩] ⟨0, 10, 17, 13⟩ [] (hTb.trans rfl) (fun z hz => by rw [List.mem_singleton.mp hz]; exact Or.inr ⟨by decide, _, (hts _ q8f), hY.2.2.2.2.2⟩) (by decide) (by decide) (hts _ qaHl) (va_Nw.use rfl (hY.2.2.2.1.2 _ (List.mem_of_getElem? (i := 0) rfl))) hc9 hv9 hcl9 ?_
      refine lv_astore (lv' := [(4, .ref qx9), (0, .ref a0), (1, .int p1), (2, .int p2), (3, .ref a3)]) hx hb (qaa qqa 12 rfl) hl (by decide) rfl (fun ls hl => ?_)
      refine lv_iconst (v := 2) hx hb (qaa qqa 13 rfl) (by decide) ?_
      exact (W.widen (k := 2) (n := 12) (nbq rfl) (nbq rfl) (W.iret (v := 2) hx hb hr (fun t ht hW => ⟨⟨2, (x1, x2, f3), rfl, hw, by rw [ht]; exact hP, va_K.moved hW.alike hK, hD⟩, hS.F ht⟩) hS.2.2 (qaa qqa 14 rfl)))
  obtain ⟨x1, x2⟩ := u
  obtain ⟨hP1, hK1, hD1⟩ := hB
  rw [ht] at hP1
  obtain ⟨hP, hD⟩ := va_join (wr := [(a3, .inl (cyJ, n3, .inr (.inl f3)))]) (w1 := (qzf a0 jaK jaR ja1 jcp jbc jbV ja3 jbH jaT jbO jaq jac jbI jbl jbn jba jaa x1 x2 jaR jbs jbt jbo jbp jbk jbj jbf jbq jbE jbm jbi jdB jaT jbb jbr jaR jff jbb cyI jbQ jbs cyI jci jbt cyI jcj)) hP hD [0, 1, 2, 3, 4, 5] [6] rfl rfl (by decide) (by decide) hk1 hFc hP1 hD1
  have hP : va_P (dC, dI) vwCl (qMO a0 jaK jaR ja1 jcp jbc jbV ja3 jbH jaT jbO jaq jac jbI jbl jbn jba jaa x1 x2 jaR jbs jbt jbo jbp jbk jbj jbf jbq jbE jbm jbi jdB jaT jbb jbr jaR jff jbb cyI jbQ jbs cyI jci jbt cyI jcj a3 cyJ n3 f3) H1 := hP.sub [1, 2, 3, 4, 5, 6, 0] rfl
  have hD : va_D A (qMO a0 jaK jaR ja1 jcp jbc jbV ja3 jbH jaT jbO jaq jac jbI jbl jbn jba jaa x1 x2 jaR jbs jbt jbo jbp jbk jbj jbf jbq jbE jbm jbi jdB jaT jbb jbr jaR jff jbb cyI jbQ jbs cyI jci jbt cyI jcj a3 cyJ n3 f3) := hD.sub [1, 2, 3, 4, 5, 6, 0] (by decide) rfl
  generalize H1 = H at hP hS ⊢
  refine lv_i2l (v := r3.toInt64) hx hb (qaa qqa 6 rfl) rfl ?_
  refine lv_topl (fun x4 ex4 => ?_)
  have hw := hw x4 ex4
  obtain ⟨hi9, hw⟩ := hw
  refine va_last hx hb hK hP hD hS 6 2 rfl rfl hi9 (qaa qqa 7 rfl) (fun H locs hP hD hS => ?_)
  obtain ⟨f5, ef5⟩ : ∃ y : Nat → Int64, y = vp_updL f3 (0 : Int32).toNatClampNeg x4 := ⟨_, rfl⟩
  have hw := hw f5 ef5
  have hP : va_P (dC, dI) vwCl (qMO a0 jaK jaR ja1 jcp jbc jbV ja3 jbH jaT jbO jaq jac jbI jbl jbn jba jaa x1 x2 jaR jbs jbt jbo jbp jbk jbj jbf jbq jbE jbm jbi jdB jaT jbb jbr jaR jff jbb cyI jbQ jbs cyI jci jbt cyI jcj a3 cyJ n3 f5) H := by rw [ef5]; exact hP
  have hD : va_D A (qMO a0 jaK jaR ja1 jcp jbc jbV ja3 jbH jaT jbO jaq jac jbI jbl jbn jba jaa x1 x2 jaR jbs jbt jbo jbp jbk jbj jbf jbq jbE jbm jbi jdB jaT jbb jbr jaR jff jbb cyI jbQ jbs cyI jci jbt cyI jcj a3 cyJ n3 f5) := by rw [ef5]; exact hD
  refine lv_goto (tgt := 21) hx hb (qaa qqa 8 rfl) (by decide) ?_
  refine lv_iconst (v := 0) hx hb (qaa qqa 15 rfl) (by decide) ?_
  exact (W.widen (k := 2) (n := 12) (nbq rfl) (nbq rfl) (W.iret (v := 0) hx hb hr (fun t ht hW => ⟨⟨0, (x1, x2, f5), rfl, hw, by rw [ht]; exact hP, va_K.moved hW.alike hK, hD⟩, hS.F ht⟩) hS.2.2 (qaa qaTZ 0 rfl)))
theorem qaJp : ∀ w ∈ (qqx RX10 268 "java/util/NoSuchElementException" 13 qxA ["java/lang/RuntimeException", "java/lang/Exception"]).filter (fun w => !goodWord w), w ∈ xB := by decide +kernel
theorem qaFb : ∀ w ∈ Cond.classLink RX10 264 "java/util/NoSuchElementException" :: Cond.initialized "java/util/NoSuchElementException" :: qqx RX10 268 "java/util/NoSuchElementException" 13 qxA ["java/lang/RuntimeException", "java/lang/Exception"], vx_ot w = true := by decide +kernel
theorem qaGb : ∀ w ∈ (qqx RX10 268 "java/util/NoSuchElementException" 13 qxA ["java/lang/RuntimeException", "java/lang/Exception"]).filter goodWord, w ∈ wsX10_fox := by decide +kernel
theorem qEa : ∀ w ∈ u_ws RX10 TX10 19, w ∈ wsX10_fox := uiM qyI qyN (by decide +kernel)
theorem qYI : ∀ w ∈ u_ws RX2 TX2 12, w ∈ wsX10_fox := uiM qyI qLp (by decide +kernel)
theorem qapH : (.classLink RX10 264 "java/util/NoSuchElementException" : Cond) ∈ wsX10_fox := qyI 2690 (by decide +kernel)
theorem qayz : (.fieldLink RX10 184 "MarchHares$Down" "foxes" "I" : Cond) ∈ wsX10_fox := qyI 2516 (by decide +kernel)
theorem qUA : (.fieldLink RX10 19 "MarchHares" "ground" "LMarchHares$Down;" : Cond) ∈ wsX10_fox := qyI 20 (by decide +kernel)
theorem q4i : (.fieldLink RX10 261 "MarchHares" "callsNoSuch" "I" : Cond) ∈ wsX10_fox := qyI 2692 (by decide +kernel)
theorem qaDR : (.fieldLink RX10 271 "MarchHares$Down" "foxX" "[I" : Cond) ∈ wsX10_fox := qyI 2818 (by decide +kernel)
theorem qaBR : (.fieldLink RX10 274 "MarchHares$Down" "foxY" "[I" : Cond) ∈ wsX10_fox := qyI 2819 (by decide +kernel)
theorem qai6 : (.initialized "java/util/NoSuchElementException" : Cond) ∈ wsX10_fox := qyI 2691 (by decide +kernel)
set_option maxHeartbeats 4000000 in
set_option maxRecDepth 100000 in
theorem qa21 (l : Launch) (dC : Nat → ClassId) (dI : Nat → Nat → Nat) (cyB cyI cyJ cyP : ClassId) (a0 jaR jmt jmu sz : Nat) (jaK ja1 jcp jbc jbV ja3 jbH ja2 jbO jaq jac jbI jbl jbn jba jaa jcB jcC jbk jbj jbf jbq jef jgP jcd : Value) (jls : Int32) (jnF jnG : NI) (jbz jdu p1 p2 : Int32) {E : String → Int32 → Int32 → Prop} {Q : Int32 → Int32 → Int32 → Prop} (hw : qajW jls jnF jnG jbz jdu p1 p2 E Q) : vx_Met l yX10_fox wsX10_fox ({ frames := 8, cells := 1, slots := 6, locals := 164 }) (va_Pc [.ref a0, .int p1, .int p2] (cPx l (dC, dI) (kT cyB cyI cyJ cyP) (qzE a0 jaK jaR ja1 jcp jbc jbV ja3 jbH ja2 jbO jaq jac jbI jbl jbn jba jaa jdu jbz jaR jcB jcC jmu jmt jbk jbj jbf jbq jef jgP jls jcd jmt cyI jnF jmu cyI jnG) sz)) (va_Qi (fun (r : Int32) (u : Int32 × Int32) => Q r u.1 u.2) (cB (dC, dI) (kT cyB cyI cyJ cyP) (va_A (qzE a0 jaK jaR ja1 jcp jbc jbV ja3 jbH ja2 jbO jaq jac jbI jbl jbn jba jaa jdu jbz jaR jcB jcC jmu jmt jbk jbj jbf jbq jef jgP jls jcd jmt cyI jnF jmu cyI jnG) sz) (fun u : Int32 × Int32 => ((qzE a0 jaK jaR ja1 jcp jbc jbV ja3 jbH ja2 jbO jaq jac jbI jbl jbn jba jaa u.2 u.1 jaR jcB jcC jmu jmt jbk jbj jbf jbq jef jgP jls jcd jmt cyI jnF jmu cyI jnG) : va_W))) (va_A (qzE a0 jaK jaR ja1 jcp jbc jbV ja3 jbH ja2 jbO jaq jac jbI jbl jbn jba jaa jdu jbz jaR jcB jcC jmu jmt jbk jbj jbf jbq jef jgP jls jcd jmt cyI jnF jmu cyI jnG) sz)) (vx_X (fun _ => True) (fun (en : String) (u : Int32 × Int32) (t : State) => E en u.1 u.2 ∧ cB (dC, dI) (kT cyB cyI cyJ cyP) (va_A (qzE a0 jaK jaR ja1 jcp jbc jbV ja3 jbH ja2 jbO jaq jac jbI jbl jbn jba jaa jdu jbz jaR jcB jcC jmu jmt jbk jbj jbf jbq jef jgP jls jcd jmt cyI jnF jmu cyI jnG) sz) (fun u : Int32 × Int32 => ((qzE a0 jaK jaR ja1 jcp jbc jbV ja3 jbH ja2 jbO jaq jac jbI jbl jbn jba jaa u.2 u.1 jaR jcB jcC jmu jmt jbk jbj jbf jbq jef jgP jls jcd jmt cyI jnF jmu cyI jnG) : va_W)) u t) (va_A (qzE a0 jaK jaR ja1 jcp jbc jbV ja3 jbH ja2 jbO jaq jac jbI jbl jbn jba jaa jdu jbz jaR jcB jcC jmu jmt jbk jbj jbf jbq jef jgP jls jcd jmt cyI jnF jmu cyI jnG) sz)) 1 6 (va_A (qzE a0 jaK jaR ja1 jcp jbc jbV ja3 jbH ja2 jbO jaq jac jbI jbl jbn jba jaa jdu jbz jaR jcB jcC jmu jmt jbk jbj jbf jbq jef jgP jls jcd jmt cyI jnF jmu cyI jnG) sz) := by
  refine vx_ofW (cc := cX10_fox) (maxL := 3) (ret := (some .int)) (by decide) rfl ?_
  intro p e s m args below meth c s₁ B hml hnt hv
  obtain ⟨rfl, hsz, hP, hK, hD0, hNw, hXl, hXu, hXn, hXt⟩ := hv
  have hx := B.exec
  have hb := B.bytes
  have hr := B.returns
  have hts := atoms_spec (ws := wsX10_fox) B.pre
  have hown : s.vm.findClass RX10 = some m.cls := findClass_of_methodNamed B.named
  have hlocks := B.notSynchronized
  subst hsz
  have hD := hD0.self (sz := s.heap.size)
  generalize hAe : va_A (qzE a0 jaK jaR ja1 jcp jbc jbV ja3 jbH ja2 jbO jaq jac jbI jbl jbn jba jaa jdu jbz jaR jcB jcC jmu jmt jbk jbj jbf jbq jef jgP jls jcd jmt cyI jnF jmu cyI jnG) s.heap.size = A at hD hXu hXn ⊢
  have hA : ∀ q : Nat, s.heap.size ≤ q → A q := fun q h => by rw [← hAe]; exact Or.inr h
  have hS : va_S A s.heap s.heap [] := va_S.rf
  have hP : va_P (dC, dI) vwCl (qzE a0 jaK jaR ja1 jcp jbc jbV ja3 jbH ja2 jbO jaq jac jbI jbl jbn jba jaa jdu jbz jaR jcB jcC jmu jmt jbk jbj jbf jbq jef jgP jls jcd jmt cyI jnF jmu cyI jnG) s.heap := hP
  have hl := lv_entry ([.ref a0, .int p1, .int p2]) (n := 3) (nbq rfl)
  rw [lg_entry_eq]
  generalize (lg_sl ([.ref a0, .int p1, .int p2]) ++ List.replicate (3 - (lg_sl ([.ref a0, .int p1, .int p2])).length) Slot.unset).toArray = ls at hl ⊢
  have hl : lv_has ls 3 [(0, .ref a0), (1, .int p1), (2, .int p2)] := hl
  have hY : cfY l s A := ⟨hXl, hXu, hXn, hXt⟩
  have hXs : cfX l s c A := ⟨hnt, hY⟩
  have C0 : cfx p s m _ meth c cX10_fox (some .int) wsX10_fox RX10 3 A (dC, dI) (kT cyB cyI cyJ cyP) ∧ cfX l s c A := ⟨⟨hx, hb, hr, hts, hown, hlocks, hml, hA, hK, hNw⟩, hXs⟩
  clear hAe
  obtain ⟨H, hH⟩ : ∃ H, H = s.heap := ⟨_, rfl⟩
  rw [← hH] at hP ⊢
  have hS : va_S A s.heap H [] := by rw [hH]; exact va_S.rf
  have hS := hS
  refine lv_iload_n hx hb (qaa qoj 0 rfl) rfl (lv_at hl 1 rfl) ?_
  refine lv_iconst (v := 0) hx hb (qaa qoj 1 rfl) (by decide) ?_
  refine lv_aload_n hx hb (qaa qoj 2 rfl) rfl (lv_at hl 0 rfl) ?_
  refine va_get (D := (dC, dI)) (ci := 10) (v := .ref jaR) (C := RX10) (T := TX10) (N := 19) hx hb hts qEa hown hK hP 0 rfl rfl 1 (by decide) (hts _ qUA) (fun _ h9 => h9) rfl (qaa qoj 3 rfl) ?_
  refine va_get (D := (dC, dI)) (ci := 2) (v := .int jls) (C := RX2) (T := TX2) (N := 12) hx hb hts qYI hown hK hP 1 rfl rfl 10 (by decide) (hts _ qayz) (fun _ h9 => h9) rfl (qaa qoj 4 rfl) ?_
  refine lv_iconst (v := 1) hx hb (qaa qoj 5 rfl) (by decide) ?_
  refine lv_isub hx hb (qaa qoj 6 rfl) ?_
  obtain ⟨hCc, hPc, hDc, hFc⟩ := qac (ws' := []) hP hD hS hA [] (by decide +kernel) rfl
  refine va_calli (va_runS (As := [.int p1, .int 0, .int (jls - 1)]) (rest := []) ⟨hx, hb, hml, hown, hts⟩ (qzC l dC dI cyB cyI cyJ cyP H.size p1 0 (jls - 1) hw) (va_cwS 3 hts gX10_fox_X10_within rfl rfl rfl (by decide +kernel) ⟨nbq rfl, nbq rfl⟩) ⟨qab, qae hPc hK hDc hNw⟩ rfl rfl hl.1 rfl (lv_room (nbq rfl)) (qaa qoj 7 rfl) ⟨nbq rfl, nbq rfl⟩) hS (fun q _ h => hFc q h) hFc (fun r1 u t H1 locs ht hvm hw hB hz1 hk1 hS => ?_)
  obtain ⟨hP1, hK1, hD1⟩ := hB
  rw [ht] at hP1
  obtain ⟨hP, hD⟩ := qah (wr := (qzE a0 jaK jaR ja1 jcp jbc jbV ja3 jbH ja2 jbO jaq jac jbI jbl jbn jba jaa jdu jbz jaR jcB jcC jmu jmt jbk jbj jbf jbq jef jgP jls jcd jmt cyI jnF jmu cyI jnG)) (w1 := []) (wn := (qzE a0 jaK jaR ja1 jcp jbc jbV ja3 jbH ja2 jbO jaq jac jbI jbl jbn jba jaa jdu jbz jaR jcB jcC jmu jmt jbk jbj jbf jbq jef jgP jls jcd jmt cyI jnF jmu cyI jnG)) hP hD [] [0, 1, 2, 3] hCc rfl (by decide +kernel) (by decide +kernel) rfl hk1 hFc hP1 hD1
  generalize H1 = H at hP hS ⊢
  refine lv_if_ne (tgt := 38) hx hb (qaa qoj 8 rfl) (by decide) (fun c2 => ?_) (fun c2 => ?_)
  · have hw := hw.1 c2
    refine lv_aload_n hx hb (qaa qmI 4 rfl) rfl (lv_at hl 0 rfl) ?_
    refine lv_iload_n hx hb (qaa qmI 5 rfl) rfl (lv_at hl 2 rfl) ?_
    refine lv_iconst (v := 0) hx hb (qaa qmI 6 rfl) (by decide) ?_
    refine lv_iconst (v := 1) hx hb (qaa qmI 7 rfl) (by decide) ?_
    obtain ⟨hCc, hPc, hDc, hFc⟩ := qac (ws' := (qaXe a0 jaK jaR ja1 jcp jbc jbV ja3 jbH ja2 jbO jaq jac jbI jbl jbn jba jaa jdu jbz)) hP hD hS hA [0] (by decide +kernel) rfl
    refine vx_callv (vx_runV (As := [.int p2, .int 0, .int 1]) (rest := []) ⟨hx, hb, hml, hown, hts⟩ (qaV l dC dI cyB cyI cyJ cyP a0 H.size (jaK) (.ref jaR) (ja1) (jcp) (jbc) (jbV) (ja3) (jbH) (ja2) (jbO) (jaq) (jac) (jbI) (jbl) (jbn) (jba) (jaa) (.int jdu) jbz p2 0 1 hw) (cwV 3 hts gX10_fox_X10_needWithin rfl rfl rfl (by decide +kernel) ⟨nbq rfl, nbq rfl⟩) ⟨qav, va_recv (q := (RX10, TX10, 19)) hK hPc (ci := 10) (q0 := 0) rfl rfl, qbl hPc hK hDc hNw hY hS hFc⟩ rfl rfl hl.1 rfl (lv_room (nbq rfl)) (qaa qmI 8 rfl) ⟨nbq rfl, nbq rfl⟩) hS (fun q _ h => hFc q h) hFc (fun q _ h => hFc q h) (fun en ce q9 u t H1 locs ht hvm hpx hB hz1 hk1 hS hc9 hv9 hcl9 => ?_) (fun u t H1 locs ht hvm hw hB hz1 hk1 hS => ?_)
    · obtain ⟨x3, rfl⟩ : ∃ z, z = u := ⟨_, rfl⟩
      obtain ⟨hw, hP1, hK1, hD1⟩ := hB
      rw [ht] at hP1
      obtain ⟨hP, hD⟩ := qad (wr := (qa35 jaR jcB jcC jmu jmt jbk jbj jbf jbq jef jgP jls jcd jmt cyI jnF jmu cyI jnG)) (w1 := (qaXe a0 jaK jaR ja1 jcp jbc jbV ja3 jbH ja2 jbO jaq jac jbI jbl jbn jba jaa jdu x3)) (wn := (qzE a0 jaK jaR ja1 jcp jbc jbV ja3 jbH ja2 jbO jaq jac jbI jbl jbn jba jaa jdu x3 jaR jcB jcC jmu jmt jbk jbj jbf jbq jef jgP jls jcd jmt cyI jnF jmu cyI jnG)) hP hD [0] [1, 2, 3] [3, 0, 1, 2] hCc rfl (by decide +kernel) (by decide +kernel) (by decide +kernel) rfl hk1 hFc hP1 hD1
      generalize H1 = H at hP hS hc9 ⊢
      exact vx_out (fun x hx9 => (hXs.1 x hx9).elim) hlocks hc9 hv9 hcl9 (fun t2 ht2 hal2 => ⟨(x3, jdu), trivial, ⟨hw, by rw [ht2]; exact hP, va_K.moved hal2 hK, hD⟩, hS.F ht2⟩) hS.2.2 (nbq rfl) (nbq rfl)
    obtain ⟨x3, rfl⟩ : ∃ z, z = u := ⟨_, rfl⟩
    obtain ⟨hP1, hK1, hD1⟩ := hB
    rw [ht] at hP1
    obtain ⟨hP, hD⟩ := qad (wr := (qa35 jaR jcB jcC jmu jmt jbk jbj jbf jbq jef jgP jls jcd jmt cyI jnF jmu cyI jnG)) (w1 := (qaXe a0 jaK jaR ja1 jcp jbc jbV ja3 jbH ja2 jbO jaq jac jbI jbl jbn jba jaa jdu x3)) (wn := (qzE a0 jaK jaR ja1 jcp jbc jbV ja3 jbH ja2 jbO jaq jac jbI jbl jbn jba jaa jdu x3 jaR jcB jcC jmu jmt jbk jbj jbf jbq jef jgP jls jcd jmt cyI jnF jmu cyI jnG)) hP hD [0] [1, 2, 3] [3, 0, 1, 2] hCc rfl (by decide +kernel) (by decide +kernel) (by decide +kernel) rfl hk1 hFc hP1 hD1
    generalize H1 = H at hP hS ⊢
    refine lv_iload_n hx hb (qaa qmI 9 rfl) rfl (lv_at hl 2 rfl) ?_
    refine lv_if_ne (tgt := 61) hx hb (qaa qmI 10 rfl) (by decide) (fun c4 => ?_) (fun c4 => ?_)
    · have hw := hw.1 c4
      refine lv_aload_n hx hb (qaa qxj 1 rfl) rfl (lv_at hl 0 rfl) ?_
      refine va_get (D := (dC, dI)) (ci := 10) (v := .ref jaR) (C := RX10) (T := TX10) (N := 19) hx hb hts qEa hown hK hP 0 rfl rfl 1 (by decide) (hts _ qUA) (fun _ h9 => h9) rfl (qaa qxj 2 rfl) ?_
      refine va_get (D := (dC, dI)) (ci := 2) (v := .ref jmt) (C := RX2) (T := TX2) (N := 12) hx hb hts qYI hown hK hP 1 rfl rfl 3 (by decide) (hts _ qaBR) (fun _ h9 => h9) rfl (qaa qxj 3 rfl) ?_
      refine lv_iload_n hx hb (qaa qxj 4 rfl) rfl (lv_at hl 1 rfl) ?_
      obtain ⟨hi9, hw⟩ := hw
      refine va_iald hx hb hK hP 2 1 rfl rfl hi9 (qaa qxj 5 rfl) ?_
      refine lv_topi (fun x5 ex5 => ?_)
      have hw := hw x5 ex5
      exact vx_ret (W.widen (k := 1) (n := 6) (nbq rfl) (nbq rfl) (W.iret (v := x5) hx hb hr (fun t ht hW => ⟨⟨x5, (x3, jdu), rfl, hw, by rw [ht]; exact hP, va_K.moved hW.alike hK, hD⟩, hS.F ht⟩) hS.2.2 (qaa qxj 6 rfl)))
    · have hw := hw.2 c4
      refine lv_aload_n hx hb (qaa qmI 11 rfl) rfl (lv_at hl 0 rfl) ?_
      refine va_get (D := (dC, dI)) (ci := 10) (v := .ref jaR) (C := RX10) (T := TX10) (N := 19) hx hb hts qEa hown hK hP 0 rfl rfl 1 (by decide) (hts _ qUA) (fun _ h9 => h9) rfl (qaa qmI 12 rfl) ?_
      refine va_get (D := (dC, dI)) (ci := 2) (v := .ref jmu) (C := RX2) (T := TX2) (N := 12) hx hb hts qYI hown hK hP 1 rfl rfl 2 (by decide) (hts _ qaDR) (fun _ h9 => h9) rfl (qaa qmI 13 rfl) ?_
      refine lv_iload_n hx hb (qaa qmI 14 rfl) rfl (lv_at hl 1 rfl) ?_
      obtain ⟨hi9, hw⟩ := hw
      refine va_iald hx hb hK hP 3 1 rfl rfl hi9 (qaa qmI 15 rfl) ?_
      refine lv_topi (fun x6 ex6 => ?_)
      have hw := hw x6 ex6
      refine lv_goto (tgt := 70) hx hb (qaa qxj 0 rfl) (by decide) ?_
      exact vx_ret (W.widen (k := 1) (n := 6) (nbq rfl) (nbq rfl) (W.iret (v := x6) hx hb hr (fun t ht hW => ⟨⟨x6, (x3, jdu), rfl, hw, by rw [ht]; exact hP, va_K.moved hW.alike hK, hD⟩, hS.F ht⟩) hS.2.2 (qaa qxj 6 rfl)))
  · have hw := hw.2 c2
    refine lv_aload_n hx hb (qaa qoj 9 rfl) rfl (lv_at hl 0 rfl) ?_
    refine lv_dup hx hb (qaa qoj 10 rfl) rfl ?_
    refine va_get (D := (dC, dI)) (ci := 10) (v := .int jdu) (C := RX10) (T := TX10) (N := 19) hx hb hts qEa hown hK hP 0 rfl rfl 17 (by decide) (hts _ q4i) (fun _ h9 => h9) rfl (qaa qoj 11 rfl) ?_
    refine lv_iconst (v := 1) hx hb (qaa qoj 12 rfl) (by decide) ?_
    refine lv_iadd hx hb (qaa qoj 13 rfl) ?_
    refine lv_topi (fun x7 ex7 => ?_)
    have hw := hw x7 ex7
    refine va_put (D := (dC, dI)) (ci := 10) (v := .int x7) (ty := .int) (C := RX10) (T := TX10) (N := 19) hx hb hts qEa tyX10 tyX10_ok nmX10 hown hK hP hD hS 0 rfl rfl 17 (by decide) (hts _ q4i) (fun _ h9 => h9) rfl (by decide +kernel) rfl rfl (nbq rfl) (qaa qoj 14 rfl) (fun H locs hP hD hS => ?_)
    have hP : va_P (dC, dI) vwCl (qzE a0 jaK jaR ja1 jcp jbc jbV ja3 jbH ja2 jbO jaq jac jbI jbl jbn jba jaa x7 jbz jaR jcB jcC jmu jmt jbk jbj jbf jbq jef jgP jls jcd jmt cyI jnF jmu cyI jnG) H := hP
    have hD : va_D A (qzE a0 jaK jaR ja1 jcp jbc jbV ja3 jbH ja2 jbO jaq jac jbI jbl jbn jba jaa x7 jbz jaR jcB jcC jmu jmt jbk jbj jbf jbq jef jgP jls jcd jmt cyI jnF jmu cyI jnG) := hD
    obtain ⟨sa9, hsa9⟩ := hY.2.2.2.2.1 _ (List.mem_of_getElem? (i := 2) rfl)
    exact qakp hx hb hY.1 (own := RX10) (cls := "java/util/NoSuchElementException") (names := ["java/lang/RuntimeException", "java/lang/Exception"]) (ik := 264) (is := 266) (ic := 268) (rx := qxA) (by decide +kernel) (by decide +kernel) (by decide +kernel) (by decide +kernel) hown (by decide +kernel) (by decide +kernel) (hts _ qapH) (hts _ qai6) hsa9 (vx_hat (fun w hw9 => hts w (qaGb w hw9)) qaJp (qa1a hY.2.2.2.1)) qaFb hY.2.1 hY.2.2.1 hS (by rw [hml]; exact hl.1) (qaa qoj 15 rfl) (qaa qmI 0 rfl) (qaa qmI 1 rfl) (qaa qmI 2 rfl) (qaa qmI 3 rfl) (fun x hx9 => (hXs.1 x hx9).elim) (nbq rfl) (nbq rfl) (nbq rfl) (nbq rfl) hlocks (fun t hal hsz9 hq9 => ⟨(jbz, x7), trivial, ⟨hw, hP.kept (fun k q hk9 => hq9 _ ((hP k q hk9).lt)), va_K.moved hal hK, hD⟩, qau3 hS hsz9 hq9⟩) hS.2.2 (nbq rfl) (nbq rfl)
theorem qaRv : (.classLink RL 13 "java/lang/IllegalArgumentException" : Cond) ∈ wsL_fox := qavy 595 (by decide +kernel)
theorem qafa : (.classLink RL 31 "java/util/NoSuchElementException" : Cond) ∈ wsL_fox := qavy 2639 (by decide +kernel)
theorem qaZ7 : (.codeWith yL_fox cL_fox 5 (some .int) [(0, 10, 13, 31), (0, 10, 17, 13)] : Cond) ∈ wsL_fox := qavy 2773 (by decide +kernel)
set_option maxHeartbeats 4000000 in
set_option maxRecDepth 100000 in
theorem qbcq (l : Launch) (dC : Nat → ClassId) (dI : Nat → Nat → Nat) (cyB cyI cyJ cyP : ClassId) (a0 a3 jaR jmt jmu sz : Nat) (jaK ja1 jcp jbc jbV ja3 jbH ja2 jbO jaq jac jbI jbl jbn jba jaa jcB jcC jbk jbj jbf jbq jef jgP jcd : Value) (n3 : Nat) (jls : Int32) (jnF jnG : NI) (jbz jdu : Int32) (f3 : Nat → Int64) (p1 p2 : Int32) {Q : Int32 → Int32 → Int32 → (Nat → Int64) → Prop} (hw : qa0F n3 jls jnF jnG jbz jdu f3 p1 p2 Q) : Met l yL_fox wsL_fox ({ frames := 9, cells := 1, slots := 6, locals := 186 }) (va_Pc [.ref a0, .int p1, .int p2, .ref a3] (cPx l (dC, dI) (kT cyB cyI cyJ cyP) (qL5 a0 jaK jaR ja1 jcp jbc jbV ja3 jbH ja2 jbO jaq jac jbI jbl jbn jba jaa jdu jbz jaR jcB jcC jmu jmt jbk jbj jbf jbq jef jgP jls jcd jmt cyI jnF jmu cyI jnG a3 cyJ n3 f3) sz)) (va_Qi (fun (r : Int32) (u : Int32 × Int32 × (Nat → Int64)) => Q r u.1 u.2.1 u.2.2) (cB (dC, dI) (kT cyB cyI cyJ cyP) (va_A (qL5 a0 jaK jaR ja1 jcp jbc jbV ja3 jbH ja2 jbO jaq jac jbI jbl jbn jba jaa jdu jbz jaR jcB jcC jmu jmt jbk jbj jbf jbq jef jgP jls jcd jmt cyI jnF jmu cyI jnG a3 cyJ n3 f3) sz) (fun u : Int32 × Int32 × (Nat → Int64) => ((qL5 a0 jaK jaR ja1 jcp jbc jbV ja3 jbH ja2 jbO jaq jac jbI jbl jbn jba jaa u.2.1 u.1 jaR jcB jcC jmu jmt jbk jbj jbf jbq jef jgP jls jcd jmt cyI jnF jmu cyI jnG a3 cyJ n3 u.2.2) : va_W))) (va_A (qL5 a0 jaK jaR ja1 jcp jbc jbV ja3 jbH ja2 jbO jaq jac jbI jbl jbn jba jaa jdu jbz jaR jcB jcC jmu jmt jbk jbj jbf jbq jef jgP jls jcd jmt cyI jnF jmu cyI jnG a3 cyJ n3 f3) sz)) 1 6 (va_A (qL5 a0 jaK jaR ja1 jcp jbc jbV ja3 jbH ja2 jbO jaq jac jbI jbl jbn jba jaa jdu jbz jaR jcB jcC jmu jmt jbk jbj jbf jbq jef jgP jls jcd jmt cyI jnF jmu cyI jnG a3 cyJ n3 f3) sz) := by
  refine va_MetW (cc := cL_fox) (maxL := 5) (ret := (some .int)) (by decide) rfl ?_
  intro p e s m args below meth c s₁ B hml hv
  obtain ⟨rfl, hsz, hP, hK, hD0, hNw, hXl, hXu, hXn, hXt⟩ := hv
  have hx := B.exec
  have hb := B.bytes
  have hr := B.returns
  have hts := atoms_spec (ws := wsL_fox) B.pre
  have hown : s.vm.findClass RL = some m.cls := findClass_of_methodNamed B.named
  have hlocks := B.notSynchronized
  subst hsz
  have hD := hD0.self (sz := s.heap.size)
  generalize hAe : va_A (qL5 a0 jaK jaR ja1 jcp jbc jbV ja3 jbH ja2 jbO jaq jac jbI jbl jbn jba jaa jdu jbz jaR jcB jcC jmu jmt jbk jbj jbf jbq jef jgP jls jcd jmt cyI jnF jmu cyI jnG a3 cyJ n3 f3) s.heap.size = A at hD hXu hXn ⊢
  have hA : ∀ q : Nat, s.heap.size ≤ q → A q := fun q h => by rw [← hAe]; exact Or.inr h
  have hS : va_S A s.heap s.heap [] := va_S.rf
  have hP : va_P (dC, dI) vwCl (qL5 a0 jaK jaR ja1 jcp jbc jbV ja3 jbH ja2 jbO jaq jac jbI jbl jbn jba jaa jdu jbz jaR jcB jcC jmu jmt jbk jbj jbf jbq jef jgP jls jcd jmt cyI jnF jmu cyI jnG a3 cyJ n3 f3) s.heap := hP
  have hl := lv_entry ([.ref a0, .int p1, .int p2, .ref a3]) (n := 5) (nbq rfl)
  rw [lg_entry_eq]
  generalize (lg_sl ([.ref a0, .int p1, .int p2, .ref a3]) ++ List.replicate (5 - (lg_sl ([.ref a0, .int p1, .int p2, .ref a3])).length) Slot.unset).toArray = ls at hl ⊢
  have hl : lv_has ls 5 [(0, .ref a0), (1, .int p1), (2, .int p2), (3, .ref a3)] := hl
  have hY : cfY l s A := ⟨hXl, hXu, hXn, hXt⟩
  have hTb := vx_table (x := yL_fox) B (hts _ qaZ7)
  clear hAe
  obtain ⟨H, hH⟩ : ∃ H, H = s.heap := ⟨_, rfl⟩
  rw [← hH] at hP ⊢
  have hS : va_S A s.heap H [] := by rw [hH]; exact va_S.rf
  have hS := hS
  refine lv_aload_n hx hb (qaa qss 0 rfl) rfl (lv_at hl 3 rfl) ?_
  refine lv_iconst (v := 0) hx hb (qaa qss 1 rfl) (by decide) ?_
  refine lv_aload_n hx hb (qaa qss 2 rfl) rfl (lv_at hl 0 rfl) ?_
  refine lv_iload_n hx hb (qaa qss 3 rfl) rfl (lv_at hl 1 rfl) ?_
  refine lv_iload_n hx hb (qaa qss 4 rfl) rfl (lv_at hl 2 rfl) ?_
  obtain ⟨hCc, hPc, hDc, hFc⟩ := qac (ws' := (qzE a0 jaK jaR ja1 jcp jbc jbV ja3 jbH ja2 jbO jaq jac jbI jbl jbn jba jaa jdu jbz jaR jcB jcC jmu jmt jbk jbj jbf jbq jef jgP jls jcd jmt cyI jnF jmu cyI jnG)) hP hD hS hA [0, 1, 2, 3] (by decide +kernel) rfl
  refine vx_calli (vx_runV (As := [.int p1, .int p2]) (rest := [.int 0, .ref a3]) ⟨hx, hb, hml, hown, hts⟩ (qa21 l dC dI cyB cyI cyJ cyP a0 jaR jmt jmu H.size (jaK) (ja1) (jcp) (jbc) (jbV) (ja3) (jbH) (ja2) (jbO) (jaq) (jac) (jbI) (jbl) (jbn) (jba) (jaa) (jcB) (jcC) (jbk) (jbj) (jbf) (jbq) (jef) (jgP) (jcd) jls jnF jnG jbz jdu p1 p2 hw) (cwV 2 hts gL_fox_X10_fox rfl rfl rfl (by decide +kernel) ⟨nbq rfl, nbq rfl⟩) ⟨qav, va_recv (q := (RX10, TX10, 19)) hK hPc (ci := 10) (q0 := 0) rfl rfl, qbl hPc hK hDc hNw hY hS hFc⟩ rfl rfl hl.1 rfl (lv_room (nbq rfl)) (qaa qss 5 rfl) ⟨nbq rfl, nbq rfl⟩) hS (fun q _ h => hFc q h) hFc (fun q _ h => hFc q h) (fun en ce qx9 u t H1 locs ht hvm hpx hB hz1 hk1 hS hc9 hv9 hcl9 => ?_) (fun r3 u t H1 locs ht hvm hw hB hz1 hk1 hS => ?_)
  · obtain ⟨x1, x2⟩ := u
    obtain ⟨hw, hP1, hK1, hD1⟩ := hB
    rw [ht] at hP1
    obtain ⟨hP, hD⟩ := qad (wr := [(a3, .inl (cyJ, n3, .inr (.inl f3)))]) (w1 := (qzE a0 jaK jaR ja1 jcp jbc jbV ja3 jbH ja2 jbO jaq jac jbI jbl jbn jba jaa x2 x1 jaR jcB jcC jmu jmt jbk jbj jbf jbq jef jgP jls jcd jmt cyI jnF jmu cyI jnG)) (wn := (qL5 a0 jaK jaR ja1 jcp jbc jbV ja3 jbH ja2 jbO jaq jac jbI jbl jbn jba jaa x2 x1 jaR jcB jcC jmu jmt jbk jbj jbf jbq jef jgP jls jcd jmt cyI jnF jmu cyI jnG a3 cyJ n3 f3)) hP hD [0, 1, 2, 3] [4] [1, 2, 3, 4, 0] hCc rfl (by decide +kernel) (by decide +kernel) (by decide +kernel) rfl hk1 hFc hP1 hD1
    generalize H1 = H at hP hS hc9 ⊢
    rcases hw with ⟨rfl, hw⟩ | ⟨rfl, hw⟩
    · refine vx_catch (own := RL) (name := "java/util/NoSuchElementException") hown [] ⟨0, 10, 13, 31⟩ [⟨0, 10, 17, 13⟩] (hTb.trans rfl) (fun z hz => nomatch hz) (by decide) (by decide) (hts _ qafa) (va_Nw.use rfl (hY.2.2.2.1.2 _ (List.mem_of_getElem? (i := 1) rfl))) hc9 hv9 hcl9 ?_
      refine lv_astore (lv' := [(4, .ref qx9), (0, .ref a0), (1, .int p1), (2, .int p2), (3, .ref a3)]) hx hb (qaa qss 9 rfl) hl (by decide) rfl (fun ls hl => ?_)
      refine lv_iconst (v := 1) hx hb (qaa qss 10 rfl) (by decide) ?_
      exact (W.widen (k := 1) (n := 6) (nbq rfl) (nbq rfl) (W.iret (v := 1) hx hb hr (fun t ht hW => ⟨⟨1, (x1, x2, f3), rfl, hw, by rw [ht]; exact hP, va_K.moved hW.alike hK, hD⟩, hS.F ht⟩) hS.2.2 (qaa qss 11 rfl)))
    · refine vx_catch (own := RL) (name := "java/lang/IllegalArgumentException") hown [⟨0, 10, 13, 31⟩] ⟨0, 10, 17, 13⟩ [] (hTb.trans rfl) (fun z hz => by rw [List.mem_singleton.mp hz]; exact Or.inr ⟨by decide, _, (hts _ qafa), hY.2.2.2.2.2⟩) (by decide) (by decide) (hts _ qaRv) (va_Nw.use rfl (hY.2.2.2.1.2 _ (List.mem_of_getElem? (i := 0) rfl))) hc9 hv9 hcl9 ?_
      refine lv_astore (lv' := [(4, .ref qx9), (0, .ref a0), (1, .int p1), (2, .int p2), (3, .ref a3)]) hx hb (qaa qss 12 rfl) hl (by decide) rfl (fun ls hl => ?_)
      refine lv_iconst (v := 2) hx hb (qaa qss 13 rfl) (by decide) ?_
      exact (W.widen (k := 1) (n := 6) (nbq rfl) (nbq rfl) (W.iret (v := 2) hx hb hr (fun t ht hW => ⟨⟨2, (x1, x2, f3), rfl, hw, by rw [ht]; exact hP, va_K.moved hW.alike hK, hD⟩, hS.F ht⟩) hS.2.2 (qaa qss 14 rfl)))
  obtain ⟨x1, x2⟩ := u
  obtain ⟨hP1, hK1, hD1⟩ := hB
  rw [ht] at hP1
  obtain ⟨hP, hD⟩ := va_join (wr := [(a3, .inl (cyJ, n3, .inr (.inl f3)))]) (w1 := (qzE a0 jaK jaR ja1 jcp jbc jbV ja3 jbH ja2 jbO jaq jac jbI jbl jbn jba jaa x2 x1 jaR jcB jcC jmu jmt jbk jbj jbf jbq jef jgP jls jcd jmt cyI jnF jmu cyI jnG)) hP hD [0, 1, 2, 3] [4] rfl rfl (by decide) (by decide) hk1 hFc hP1 hD1
  have hP : va_P (dC, dI) vwCl (qL5 a0 jaK jaR ja1 jcp jbc jbV ja3 jbH ja2 jbO jaq jac jbI jbl jbn jba jaa x2 x1 jaR jcB jcC jmu jmt jbk jbj jbf jbq jef jgP jls jcd jmt cyI jnF jmu cyI jnG a3 cyJ n3 f3) H1 := hP.sub [1, 2, 3, 4, 0] rfl
  have hD : va_D A (qL5 a0 jaK jaR ja1 jcp jbc jbV ja3 jbH ja2 jbO jaq jac jbI jbl jbn jba jaa x2 x1 jaR jcB jcC jmu jmt jbk jbj jbf jbq jef jgP jls jcd jmt cyI jnF jmu cyI jnG a3 cyJ n3 f3) := hD.sub [1, 2, 3, 4, 0] (by decide) rfl
  generalize H1 = H at hP hS ⊢
  refine lv_i2l (v := r3.toInt64) hx hb (qaa qss 6 rfl) rfl ?_
  refine lv_topl (fun x4 ex4 => ?_)
  have hw := hw x4 ex4
  obtain ⟨hi9, hw⟩ := hw
  refine va_last hx hb hK hP hD hS 4 2 rfl rfl hi9 (qaa qss 7 rfl) (fun H locs hP hD hS => ?_)
  obtain ⟨f5, ef5⟩ : ∃ y : Nat → Int64, y = vp_updL f3 (0 : Int32).toNatClampNeg x4 := ⟨_, rfl⟩
  have hw := hw f5 ef5
  have hP : va_P (dC, dI) vwCl (qL5 a0 jaK jaR ja1 jcp jbc jbV ja3 jbH ja2 jbO jaq jac jbI jbl jbn jba jaa x2 x1 jaR jcB jcC jmu jmt jbk jbj jbf jbq jef jgP jls jcd jmt cyI jnF jmu cyI jnG a3 cyJ n3 f5) H := by rw [ef5]; exact hP
  have hD : va_D A (qL5 a0 jaK jaR ja1 jcp jbc jbV ja3 jbH ja2 jbO jaq jac jbI jbl jbn jba jaa x2 x1 jaR jcB jcC jmu jmt jbk jbj jbf jbq jef jgP jls jcd jmt cyI jnF jmu cyI jnG a3 cyJ n3 f5) := by rw [ef5]; exact hD
  refine lv_goto (tgt := 21) hx hb (qaa qss 8 rfl) (by decide) ?_
  refine lv_iconst (v := 0) hx hb (qaa qss 15 rfl) (by decide) ?_
  exact (W.widen (k := 1) (n := 6) (nbq rfl) (nbq rfl) (W.iret (v := 0) hx hb hr (fun t ht hW => ⟨⟨0, (x1, x2, f5), rfl, hw, by rw [ht]; exact hP, va_K.moved hW.alike hK, hD⟩, hS.F ht⟩) hS.2.2 (qaa qaZr 0 rfl)))
theorem qbgP {x : Int32} (h : ¬ (x.toInt < 0 ∨ 6 < x.toInt)) : x = 0 ∨ x = 1 ∨ x = 2 ∨ x = 3 ∨ x = 4 ∨ x = 5 ∨ x = 6 := by
  obtain ⟨j, hj, e⟩ := nI_of (x := x) (fun h0 => h (Or.inl (Int.lt_of_lt_of_le (by simpa using (Int32.lt_iff_toInt_lt.mp h0)) (by decide : (0 : Int) ≤ 0))))
  have h2 : (j : Int) ≤ 6 ∧ 0 ≤ (j : Int) := by
    have := nI_toInt hj
    rw [e] at h
    omega
  have h3 : j = 0 ∨ j = 1 ∨ j = 2 ∨ j = 3 ∨ j = 4 ∨ j = 5 ∨ j = 6 := by omega
  rw [e]
  rcases h3 with rfl | rfl | rfl | rfl | rfl | rfl | rfl <;> decide
theorem qqL : ∀ w ∈ u_ws RX10 TX10 19, w ∈ wsX10_hare := uiM qkD qyN (by decide +kernel)
theorem qaHc : ∀ w ∈ u_ws RX2 TX2 12, w ∈ wsX10_hare := uiM qkD qLp (by decide +kernel)
theorem qaCp : (.fieldLink RX10 19 "MarchHares" "ground" "LMarchHares$Down;" : Cond) ∈ wsX10_hare := qkD 20 (by decide +kernel)
theorem qaub : (.fieldLink RX10 239 "MarchHares$Down" "strength" "[I" : Cond) ∈ wsX10_hare := qkD 2710 (by decide +kernel)
theorem qsk : (.fieldLink RX10 58 "MarchHares" "now" "LMarchHares$Days;" : Cond) ∈ wsX10_hare := qkD 79 (by decide +kernel)
set_option maxHeartbeats 4000000 in
set_option maxRecDepth 100000 in
theorem qaXQ (l : Launch) (dC : Nat → ClassId) (dI : Nat → Nat → Nat) (cyB cyI cyJ cyP : ClassId) (a0 jaR jaT jbb jb6 jcc jcl jbW jbL jcG sz : Nat) (jaK ja1 jcp jbc jbV ja3 jbH jbO jaq jac jbI jbl jbn jba jaa jcB jcC jbo jbp jbk jbf jbq jef jbi jcd jbr : Value) (jbm : Int32) (jbQ : NI) (jdh : Int32) (jdN jdi jfT : NI) (jdu jbz : Int32) (jfl jfM : NI) (p1 p2 : Int32) {E : String → Int32 → Int32 → NI → NI → Prop} {Q : Int32 → Int32 → Int32 → NI → NI → Prop} (hw : qabU jbm jbQ jdh jdN jdi jfT jdu jbz jfl jfM p1 p2 E Q) : vx_Met l yX10_hare wsX10_hare ({ frames := 8, cells := 2, slots := 12, locals := 164 }) (va_Pc [.ref a0, .int p1, .int p2] (cPx l (dC, dI) (kT cyB cyI cyJ cyP) (qvZ a0 jaK jaR ja1 jcp jbc jbV ja3 jbH jaT jbO jaq jac jbI jbl jbn jba jaa jdu jbz jaR jcB jcC jbo jbp jbk jcG jbf jbq jef jbm jbi jcd jaT jbb jbr jaR jb6 jbb cyI jbQ jb6 jbW jbL jcl jcc jdh jcc cyI jfl jcl cyI jfM jbW cyI jdN jbL cyI jdi jcG cyI jfT) sz)) (va_Qi (fun (r : Int32) (u : Int32 × Int32 × NI × NI) => Q r u.1 u.2.1 u.2.2.1 u.2.2.2) (cB (dC, dI) (kT cyB cyI cyJ cyP) (va_A (qvZ a0 jaK jaR ja1 jcp jbc jbV ja3 jbH jaT jbO jaq jac jbI jbl jbn jba jaa jdu jbz jaR jcB jcC jbo jbp jbk jcG jbf jbq jef jbm jbi jcd jaT jbb jbr jaR jb6 jbb cyI jbQ jb6 jbW jbL jcl jcc jdh jcc cyI jfl jcl cyI jfM jbW cyI jdN jbL cyI jdi jcG cyI jfT) sz) (fun u : Int32 × Int32 × NI × NI => ((qvZ a0 jaK jaR ja1 jcp jbc jbV ja3 jbH jaT jbO jaq jac jbI jbl jbn jba jaa u.1 u.2.1 jaR jcB jcC jbo jbp jbk jcG jbf jbq jef jbm jbi jcd jaT jbb jbr jaR jb6 jbb cyI jbQ jb6 jbW jbL jcl jcc jdh jcc cyI u.2.2.1 jcl cyI u.2.2.2 jbW cyI jdN jbL cyI jdi jcG cyI jfT) : va_W))) (va_A (qvZ a0 jaK jaR ja1 jcp jbc jbV ja3 jbH jaT jbO jaq jac jbI jbl jbn jba jaa jdu jbz jaR jcB jcC jbo jbp jbk jcG jbf jbq jef jbm jbi jcd jaT jbb jbr jaR jb6 jbb cyI jbQ jb6 jbW jbL jcl jcc jdh jcc cyI jfl jcl cyI jfM jbW cyI jdN jbL cyI jdi jcG cyI jfT) sz)) (vx_X (fun _ => True) (fun (en : String) (u : Int32 × Int32 × NI × NI) (t : State) => E en u.1 u.2.1 u.2.2.1 u.2.2.2 ∧ cB (dC, dI) (kT cyB cyI cyJ cyP) (va_A (qvZ a0 jaK jaR ja1 jcp jbc jbV ja3 jbH jaT jbO jaq jac jbI jbl jbn jba jaa jdu jbz jaR jcB jcC jbo jbp jbk jcG jbf jbq jef jbm jbi jcd jaT jbb jbr jaR jb6 jbb cyI jbQ jb6 jbW jbL jcl jcc jdh jcc cyI jfl jcl cyI jfM jbW cyI jdN jbL cyI jdi jcG cyI jfT) sz) (fun u : Int32 × Int32 × NI × NI => ((qvZ a0 jaK jaR ja1 jcp jbc jbV ja3 jbH jaT jbO jaq jac jbI jbl jbn jba jaa u.1 u.2.1 jaR jcB jcC jbo jbp jbk jcG jbf jbq jef jbm jbi jcd jaT jbb jbr jaR jb6 jbb cyI jbQ jb6 jbW jbL jcl jcc jdh jcc cyI u.2.2.1 jcl cyI u.2.2.2 jbW cyI jdN jbL cyI jdi jcG cyI jfT) : va_W)) u t) (va_A (qvZ a0 jaK jaR ja1 jcp jbc jbV ja3 jbH jaT jbO jaq jac jbI jbl jbn jba jaa jdu jbz jaR jcB jcC jbo jbp jbk jcG jbf jbq jef jbm jbi jcd jaT jbb jbr jaR jb6 jbb cyI jbQ jb6 jbW jbL jcl jcc jdh jcc cyI jfl jcl cyI jfM jbW cyI jdN jbL cyI jdi jcG cyI jfT) sz)) 2 12 (va_A (qvZ a0 jaK jaR ja1 jcp jbc jbV ja3 jbH jaT jbO jaq jac jbI jbl jbn jba jaa jdu jbz jaR jcB jcC jbo jbp jbk jcG jbf jbq jef jbm jbi jcd jaT jbb jbr jaR jb6 jbb cyI jbQ jb6 jbW jbL jcl jcc jdh jcc cyI jfl jcl cyI jfM jbW cyI jdN jbL cyI jdi jcG cyI jfT) sz) := by
  refine vx_ofW (cc := cX10_hare) (maxL := 3) (ret := (some .int)) (by decide) rfl ?_
  intro p e s m args below meth c s₁ B hml hnt hv
  obtain ⟨rfl, hsz, hP, hK, hD0, hNw, hXl, hXu, hXn, hXt⟩ := hv
  have hx := B.exec
  have hb := B.bytes
  have hr := B.returns
  have hts := atoms_spec (ws := wsX10_hare) B.pre
  have hown : s.vm.findClass RX10 = some m.cls := findClass_of_methodNamed B.named
  have hlocks := B.notSynchronized
  subst hsz
  have hD := hD0.self (sz := s.heap.size)
  generalize hAe : va_A (qvZ a0 jaK jaR ja1 jcp jbc jbV ja3 jbH jaT jbO jaq jac jbI jbl jbn jba jaa jdu jbz jaR jcB jcC jbo jbp jbk jcG jbf jbq jef jbm jbi jcd jaT jbb jbr jaR jb6 jbb cyI jbQ jb6 jbW jbL jcl jcc jdh jcc cyI jfl jcl cyI jfM jbW cyI jdN jbL cyI jdi jcG cyI jfT) s.heap.size = A at hD hXu hXn ⊢
  have hA : ∀ q : Nat, s.heap.size ≤ q → A q := fun q h => by rw [← hAe]; exact Or.inr h
  have hS : va_S A s.heap s.heap [] := va_S.rf
  have hP : va_P (dC, dI) vwCl (qvZ a0 jaK jaR ja1 jcp jbc jbV ja3 jbH jaT jbO jaq jac jbI jbl jbn jba jaa jdu jbz jaR jcB jcC jbo jbp jbk jcG jbf jbq jef jbm jbi jcd jaT jbb jbr jaR jb6 jbb cyI jbQ jb6 jbW jbL jcl jcc jdh jcc cyI jfl jcl cyI jfM jbW cyI jdN jbL cyI jdi jcG cyI jfT) s.heap := hP
  have hl := lv_entry ([.ref a0, .int p1, .int p2]) (n := 3) (nbq rfl)
  rw [lg_entry_eq]
  generalize (lg_sl ([.ref a0, .int p1, .int p2]) ++ List.replicate (3 - (lg_sl ([.ref a0, .int p1, .int p2])).length) Slot.unset).toArray = ls at hl ⊢
  have hl : lv_has ls 3 [(0, .ref a0), (1, .int p1), (2, .int p2)] := hl
  have hY : cfY l s A := ⟨hXl, hXu, hXn, hXt⟩
  have hXs : cfX l s c A := ⟨hnt, hY⟩
  have C0 : cfx p s m _ meth c cX10_hare (some .int) wsX10_hare RX10 3 A (dC, dI) (kT cyB cyI cyJ cyP) ∧ cfX l s c A := ⟨⟨hx, hb, hr, hts, hown, hlocks, hml, hA, hK, hNw⟩, hXs⟩
  clear hAe
  obtain ⟨H, hH⟩ : ∃ H, H = s.heap := ⟨_, rfl⟩
  rw [← hH] at hP ⊢
  have hS : va_S A s.heap H [] := by rw [hH]; exact va_S.rf
  have hS := hS
  refine lv_aload_n hx hb (qaa quY 0 rfl) rfl (lv_at hl 0 rfl) ?_
  refine lv_iload_n hx hb (qaa quY 1 rfl) rfl (lv_at hl 1 rfl) ?_
  obtain ⟨hCc, hPc, hDc, hFc⟩ := qac (ws' := (qaZS a0 jaK jaR ja1 jcp jbc jbV ja3 jbH jaT jbO jaq jac jbI jbl jbn jba jaa jdu jbz jaR jcB jcC jbo jbp jbk jcG jbf jbq jef jbm jbi jcd)) hP hD hS hA [0, 1] (by decide +kernel) rfl
  refine vx_callv (vx_runV (As := [.int p1]) (rest := []) ⟨hx, hb, hml, hown, hts⟩ (qqu l dC dI cyB cyI cyJ cyP a0 jaR H.size (jaK) (ja1) (jcp) (jbc) (jbV) (ja3) (jbH) (.ref jaT) (jbO) (jaq) (jac) (jbI) (jbl) (jbn) (jba) (jaa) (.int jbz) (jcB) (jcC) (jbo) (jbp) (jbk) (.ref jcG) (jbf) (jbq) (jef) (jbi) (jcd) jbm jdu p1 hw) (cwV 1 hts gX10_hare_X10_needHare rfl rfl rfl (by decide +kernel) ⟨nbq rfl, nbq rfl⟩) ⟨qav, va_recv (q := (RX10, TX10, 19)) hK hPc (ci := 10) (q0 := 0) rfl rfl, qbl hPc hK hDc hNw hY hS hFc⟩ rfl rfl hl.1 rfl (lv_room (nbq rfl)) (qaa quY 2 rfl) ⟨nbq rfl, nbq rfl⟩) hS (fun q _ h => hFc q h) hFc (fun q _ h => hFc q h) (fun en ce q9 u t H1 locs ht hvm hpx hB hz1 hk1 hS hc9 hv9 hcl9 => ?_) (fun u t H1 locs ht hvm hw hB hz1 hk1 hS => ?_)
  · obtain ⟨x1, rfl⟩ : ∃ z, z = u := ⟨_, rfl⟩
    obtain ⟨hw, hP1, hK1, hD1⟩ := hB
    rw [ht] at hP1
    obtain ⟨hP, hD⟩ := qad (wr := (qa8U jaT jbb jbr jaR jb6 jbb cyI jbQ jb6 jbW jbL jcl jcc jdh jcc cyI jfl jcl cyI jfM jbW cyI jdN jbL cyI jdi jcG cyI jfT)) (w1 := (qaZS a0 jaK jaR ja1 jcp jbc jbV ja3 jbH jaT jbO jaq jac jbI jbl jbn jba jaa x1 jbz jaR jcB jcC jbo jbp jbk jcG jbf jbq jef jbm jbi jcd)) (wn := (qvZ a0 jaK jaR ja1 jcp jbc jbV ja3 jbH jaT jbO jaq jac jbI jbl jbn jba jaa x1 jbz jaR jcB jcC jbo jbp jbk jcG jbf jbq jef jbm jbi jcd jaT jbb jbr jaR jb6 jbb cyI jbQ jb6 jbW jbL jcl jcc jdh jcc cyI jfl jcl cyI jfM jbW cyI jdN jbL cyI jdi jcG cyI jfT)) hP hD [0, 1] [2, 3, 4, 5, 6, 7, 8, 9] [8, 9, 0, 1, 2, 3, 4, 5, 6, 7] hCc rfl (by decide +kernel) (by decide +kernel) (by decide +kernel) rfl hk1 hFc hP1 hD1
    generalize H1 = H at hP hS hc9 ⊢
    exact vx_out (fun x hx9 => (hXs.1 x hx9).elim) hlocks hc9 hv9 hcl9 (fun t2 ht2 hal2 => ⟨(x1, jbz, jfl, jfM), trivial, ⟨hw, by rw [ht2]; exact hP, va_K.moved hal2 hK, hD⟩, hS.F ht2⟩) hS.2.2 (nbq rfl) (nbq rfl)
  obtain ⟨x1, rfl⟩ : ∃ z, z = u := ⟨_, rfl⟩
  obtain ⟨hP1, hK1, hD1⟩ := hB
  rw [ht] at hP1
  obtain ⟨hP, hD⟩ := qad (wr := (qa8U jaT jbb jbr jaR jb6 jbb cyI jbQ jb6 jbW jbL jcl jcc jdh jcc cyI jfl jcl cyI jfM jbW cyI jdN jbL cyI jdi jcG cyI jfT)) (w1 := (qaZS a0 jaK jaR ja1 jcp jbc jbV ja3 jbH jaT jbO jaq jac jbI jbl jbn jba jaa x1 jbz jaR jcB jcC jbo jbp jbk jcG jbf jbq jef jbm jbi jcd)) (wn := (qvZ a0 jaK jaR ja1 jcp jbc jbV ja3 jbH jaT jbO jaq jac jbI jbl jbn jba jaa x1 jbz jaR jcB jcC jbo jbp jbk jcG jbf jbq jef jbm jbi jcd jaT jbb jbr jaR jb6 jbb cyI jbQ jb6 jbW jbL jcl jcc jdh jcc cyI jfl jcl cyI jfM jbW cyI jdN jbL cyI jdi jcG cyI jfT)) hP hD [0, 1] [2, 3, 4, 5, 6, 7, 8, 9] [8, 9, 0, 1, 2, 3, 4, 5, 6, 7] hCc rfl (by decide +kernel) (by decide +kernel) (by decide +kernel) rfl hk1 hFc hP1 hD1
  generalize H1 = H at hP hS ⊢
  refine lv_aload_n hx hb (qaa quY 3 rfl) rfl (lv_at hl 0 rfl) ?_
  refine lv_iload_n hx hb (qaa quY 4 rfl) rfl (lv_at hl 2 rfl) ?_
  refine lv_iconst (v := 0) hx hb (qaa quY 5 rfl) (by decide) ?_
  refine lv_bipush (v := 7) hx hb (qaa quY 6 rfl) (by decide) ?_
  obtain ⟨hCc, hPc, hDc, hFc⟩ := qac (ws' := (qalI a0 jaK jaR ja1 jcp jbc jbV ja3 jbH jaT jbO jaq jac jbI jbl jbn jba jaa x1 jbz)) hP hD hS hA [0] (by decide +kernel) rfl
  refine vx_callv (vx_runV (As := [.int p2, .int 0, .int 7]) (rest := []) ⟨hx, hb, hml, hown, hts⟩ (qaV l dC dI cyB cyI cyJ cyP a0 H.size (jaK) (.ref jaR) (ja1) (jcp) (jbc) (jbV) (ja3) (jbH) (.ref jaT) (jbO) (jaq) (jac) (jbI) (jbl) (jbn) (jba) (jaa) (.int x1) jbz p2 0 7 hw) (cwV 3 hts gX10_hare_X10_needWithin rfl rfl rfl (by decide +kernel) ⟨nbq rfl, nbq rfl⟩) ⟨qav, va_recv (q := (RX10, TX10, 19)) hK hPc (ci := 10) (q0 := 0) rfl rfl, qbl hPc hK hDc hNw hY hS hFc⟩ rfl rfl hl.1 rfl (lv_room (nbq rfl)) (qaa quY 7 rfl) ⟨nbq rfl, nbq rfl⟩) hS (fun q _ h => hFc q h) hFc (fun q _ h => hFc q h) (fun en ce q9 u t H1 locs ht hvm hpx hB hz1 hk1 hS hc9 hv9 hcl9 => ?_) (fun u t H1 locs ht hvm hw hB hz1 hk1 hS => ?_)
  · obtain ⟨x2, rfl⟩ : ∃ z, z = u := ⟨_, rfl⟩
    obtain ⟨hw, hP1, hK1, hD1⟩ := hB
    rw [ht] at hP1
    obtain ⟨hP, hD⟩ := qad (wr := (qa8A jaR jcB jcC jbo jbp jbk jcG jbf jbq jef jbm jbi jcd jaT jbb jbr jaR jb6 jbb cyI jbQ jb6 jbW jbL jcl jcc jdh jcc cyI jfl jcl cyI jfM jbW cyI jdN jbL cyI jdi jcG cyI jfT)) (w1 := (qalI a0 jaK jaR ja1 jcp jbc jbV ja3 jbH jaT jbO jaq jac jbI jbl jbn jba jaa x1 x2)) (wn := (qvZ a0 jaK jaR ja1 jcp jbc jbV ja3 jbH jaT jbO jaq jac jbI jbl jbn jba jaa x1 x2 jaR jcB jcC jbo jbp jbk jcG jbf jbq jef jbm jbi jcd jaT jbb jbr jaR jb6 jbb cyI jbQ jb6 jbW jbL jcl jcc jdh jcc cyI jfl jcl cyI jfM jbW cyI jdN jbL cyI jdi jcG cyI jfT)) hP hD [0] [1, 2, 3, 4, 5, 6, 7, 8, 9] [9, 0, 1, 2, 3, 4, 5, 6, 7, 8] hCc rfl (by decide +kernel) (by decide +kernel) (by decide +kernel) rfl hk1 hFc hP1 hD1
    generalize H1 = H at hP hS hc9 ⊢
    exact vx_out (fun x hx9 => (hXs.1 x hx9).elim) hlocks hc9 hv9 hcl9 (fun t2 ht2 hal2 => ⟨(x1, x2, jfl, jfM), trivial, ⟨hw, by rw [ht2]; exact hP, va_K.moved hal2 hK, hD⟩, hS.F ht2⟩) hS.2.2 (nbq rfl) (nbq rfl)
  obtain ⟨x2, rfl⟩ : ∃ z, z = u := ⟨_, rfl⟩
  obtain ⟨hP1, hK1, hD1⟩ := hB
  rw [ht] at hP1
  obtain ⟨hP, hD⟩ := qad (wr := (qa8A jaR jcB jcC jbo jbp jbk jcG jbf jbq jef jbm jbi jcd jaT jbb jbr jaR jb6 jbb cyI jbQ jb6 jbW jbL jcl jcc jdh jcc cyI jfl jcl cyI jfM jbW cyI jdN jbL cyI jdi jcG cyI jfT)) (w1 := (qalI a0 jaK jaR ja1 jcp jbc jbV ja3 jbH jaT jbO jaq jac jbI jbl jbn jba jaa x1 x2)) (wn := (qvZ a0 jaK jaR ja1 jcp jbc jbV ja3 jbH jaT jbO jaq jac jbI jbl jbn jba jaa x1 x2 jaR jcB jcC jbo jbp jbk jcG jbf jbq jef jbm jbi jcd jaT jbb jbr jaR jb6 jbb cyI jbQ jb6 jbW jbL jcl jcc jdh jcc cyI jfl jcl cyI jfM jbW cyI jdN jbL cyI jdi jcG cyI jfT)) hP hD [0] [1, 2, 3, 4, 5, 6, 7, 8, 9] [9, 0, 1, 2, 3, 4, 5, 6, 7, 8] hCc rfl (by decide +kernel) (by decide +kernel) (by decide +kernel) rfl hk1 hFc hP1 hD1
  generalize H1 = H at hP hS ⊢
  refine lv_iload_n hx hb (qaa quY 8 rfl) rfl (lv_at hl 2 rfl) ?_
  by_cases c3 : p2.toInt < 0 ∨ 6 < p2.toInt
  · have hw := hw.1 c3
    refine lv_tableOut (tgt := 135) hx hb dX10_hare_14 c3 (by decide) ?_
    refine lv_aload_n hx hb (qaa qg2 11 rfl) rfl (lv_at hl 0 rfl) ?_
    refine va_get (D := (dC, dI)) (ci := 10) (v := .ref jaT) (C := RX10) (T := TX10) (N := 19) hx hb hts qqL hown hK hP 0 rfl rfl 8 (by decide) (hts _ qsk) (fun _ h9 => h9) rfl (qaa qg2 12 rfl) ?_
    refine lv_iload_n hx hb (qaa qg2 13 rfl) rfl (lv_at hl 1 rfl) ?_
    obtain ⟨hCc, hPc, hDc, hFc⟩ := qac (ws' := (qDk jaT jbb jbr jaR jb6 jbb cyI jbQ)) hP hD hS hA [2, 3] (by decide +kernel) rfl
    refine va_calli (va_runV (As := [.int p1]) (rest := []) ⟨hx, hb, hml, hown, hts⟩ (qia l dC dI cyB cyI cyJ cyP jaT jbb H.size (jbr) (.ref jaR) (.ref jb6) jbQ p1 hw) (cwV 1 hts gX10_hare_X1_isCaught rfl rfl rfl (by decide +kernel) ⟨nbq rfl, nbq rfl⟩) ⟨qab, va_recv (q := (RX1, TX1, 4)) hK hPc (ci := 1) (q0 := 0) rfl rfl, qae hPc hK hDc hNw⟩ rfl rfl hl.1 rfl (lv_room (nbq rfl)) (qaa qg2 14 rfl) ⟨nbq rfl, nbq rfl⟩) hS (fun q _ h => hFc q h) hFc (fun r4 u t H1 locs ht hvm hw hB hz1 hk1 hS => ?_)
    obtain ⟨hP1, hK1, hD1⟩ := hB
    rw [ht] at hP1
    obtain ⟨hP, hD⟩ := qad (wr := (qami a0 jaK jaR ja1 jcp jbc jbV ja3 jbH jaT jbO jaq jac jbI jbl jbn jba jaa x1 x2 jaR jcB jcC jbo jbp jbk jcG jbf jbq jef jbm jbi jcd jb6 jbW jbL jcl jcc jdh jcc cyI jfl jcl cyI jfM jbW cyI jdN jbL cyI jdi jcG cyI jfT)) (w1 := (qDk jaT jbb jbr jaR jb6 jbb cyI jbQ)) (wn := (qvZ a0 jaK jaR ja1 jcp jbc jbV ja3 jbH jaT jbO jaq jac jbI jbl jbn jba jaa x1 x2 jaR jcB jcC jbo jbp jbk jcG jbf jbq jef jbm jbi jcd jaT jbb jbr jaR jb6 jbb cyI jbQ jb6 jbW jbL jcl jcc jdh jcc cyI jfl jcl cyI jfM jbW cyI jdN jbL cyI jdi jcG cyI jfT)) hP hD [2, 3] [0, 1, 4, 5, 6, 7, 8, 9] [0, 1, 8, 9, 2, 3, 4, 5, 6, 7] hCc rfl (by decide +kernel) (by decide +kernel) (by decide +kernel) rfl hk1 hFc hP1 hD1
    generalize H1 = H at hP hS ⊢
    refine lv_if_eq (tgt := 150) hx hb (qaa qg2 15 rfl) (by decide) (fun c5 => ?_) (fun c5 => ?_)
    · have hw := hw.1 c5
      refine lv_aload_n hx hb (qaa qtZ 2 rfl) rfl (lv_at hl 0 rfl) ?_
      refine va_get (D := (dC, dI)) (ci := 10) (v := .ref jaT) (C := RX10) (T := TX10) (N := 19) hx hb hts qqL hown hK hP 0 rfl rfl 8 (by decide) (hts _ qsk) (fun _ h9 => h9) rfl (qaa qtZ 3 rfl) ?_
      refine lv_iload_n hx hb (qaa qtZ 4 rfl) rfl (lv_at hl 1 rfl) ?_
      obtain ⟨hCc, hPc, hDc, hFc⟩ := qac (ws' := (qbag jaT jbb jbr jaR jb6 jbb cyI jbQ jaR jcB jcC jbo jbp jbk jcG jbf jbq jef jbm jbi jcd jb6 jbW jbL jcl jcc jdh jcc cyI jfl jcl cyI jfM jbW cyI jdN jbL cyI jdi)) hP hD hS hA [2, 3, 1, 4, 5, 6, 7, 8] (by decide +kernel) rfl
      refine va_calli (va_runV (As := [.int p1]) (rest := []) ⟨hx, hb, hml, hown, hts⟩ (qXY l dC dI cyB cyI cyJ cyP jaT jbb jaR jb6 jcc jcl jbW jbL H.size (jbr) (jcB) (jcC) (jbo) (jbp) (jbk) (.ref jcG) (jbf) (jbq) (jef) (jbi) (jcd) jbQ jbm jdh jdN jdi jfl jfM p1 hw) (cwV 1 hts gX10_hare_X1_reach rfl rfl rfl (by decide +kernel) ⟨nbq rfl, nbq rfl⟩) ⟨qab, va_recv (q := (RX1, TX1, 4)) hK hPc (ci := 1) (q0 := 0) rfl rfl, qae hPc hK hDc hNw⟩ rfl rfl hl.1 rfl (lv_room (nbq rfl)) (qaa qtZ 5 rfl) ⟨nbq rfl, nbq rfl⟩) hS (fun q _ h => hFc q h) hFc (fun r8 u t H1 locs ht hvm hw hB hz1 hk1 hS => ?_)
      obtain ⟨f6, f7⟩ := u
      obtain ⟨hP1, hK1, hD1⟩ := hB
      rw [ht] at hP1
      obtain ⟨hP, hD⟩ := qad (wr := [(a0, .inr (10, [jaK, .ref jaR, ja1, jcp, jbc, jbV, ja3, jbH, .ref jaT, jbO, jaq, jac, jbI, jbl, jbn, jba, jaa, .int x1, .int x2])), (jcG, .inl (cyI, 6, .inl jfT))]) (w1 := (qbag jaT jbb jbr jaR jb6 jbb cyI jbQ jaR jcB jcC jbo jbp jbk jcG jbf jbq jef jbm jbi jcd jb6 jbW jbL jcl jcc jdh jcc cyI f6 jcl cyI f7 jbW cyI jdN jbL cyI jdi)) (wn := (qvZ a0 jaK jaR ja1 jcp jbc jbV ja3 jbH jaT jbO jaq jac jbI jbl jbn jba jaa x1 x2 jaR jcB jcC jbo jbp jbk jcG jbf jbq jef jbm jbi jcd jaT jbb jbr jaR jb6 jbb cyI jbQ jb6 jbW jbL jcl jcc jdh jcc cyI f6 jcl cyI f7 jbW cyI jdN jbL cyI jdi jcG cyI jfT)) hP hD [2, 3, 1, 4, 5, 6, 7, 8] [0, 9] [0, 4, 2, 3, 5, 6, 7, 8, 9, 1] hCc rfl (by decide +kernel) (by decide +kernel) (by decide +kernel) rfl hk1 hFc hP1 hD1
      generalize H1 = H at hP hS ⊢
      exact vx_ret (W.widen (k := 2) (n := 12) (nbq rfl) (nbq rfl) (W.iret (v := r8) hx hb hr (fun t ht hW => ⟨⟨r8, (x1, x2, f6, f7), rfl, hw, by rw [ht]; exact hP, va_K.moved hW.alike hK, hD⟩, hS.F ht⟩) hS.2.2 (qaa qtZ 6 rfl)))
    · have hw := hw.2 c5
      refine lv_iconst (v := 0) hx hb (qaa qtZ 0 rfl) (by decide) ?_
      refine lv_goto (tgt := 158) hx hb (qaa qtZ 1 rfl) (by decide) ?_
      exact vx_ret (W.widen (k := 2) (n := 12) (nbq rfl) (nbq rfl) (W.iret (v := 0) hx hb hr (fun t ht hW => ⟨⟨0, (x1, x2, jfl, jfM), rfl, hw, by rw [ht]; exact hP, va_K.moved hW.alike hK, hD⟩, hS.F ht⟩) hS.2.2 (qaa qtZ 6 rfl)))
  · have hw := hw.2
    rcases qbgP c3 with c3 | c3 | c3 | c3 | c3 | c3 | c3
    · have hw := hw.1 c3
      refine lv_tableIn (tgt := 56) (off := 42) hx hb dX10_hare_14 (by rw [c3]; decide) (by rw [c3]; decide) (by rw [c3]; decide) (by decide) ?_
      refine lv_aload_n hx hb (qaa qh7 0 rfl) rfl (lv_at hl 0 rfl) ?_
      refine va_get (D := (dC, dI)) (ci := 10) (v := .ref jaT) (C := RX10) (T := TX10) (N := 19) hx hb hts qqL hown hK hP 0 rfl rfl 8 (by decide) (hts _ qsk) (fun _ h9 => h9) rfl (qaa qh7 1 rfl) ?_
      refine lv_iload_n hx hb (qaa qh7 2 rfl) rfl (lv_at hl 1 rfl) ?_
      obtain ⟨hCc, hPc, hDc, hFc⟩ := qac (ws' := (qDk jaT jbb jbr jaR jb6 jbb cyI jbQ)) hP hD hS hA [2, 3] (by decide +kernel) rfl
      refine va_calli (va_runV (As := [.int p1]) (rest := []) ⟨hx, hb, hml, hown, hts⟩ (qia l dC dI cyB cyI cyJ cyP jaT jbb H.size (jbr) (.ref jaR) (.ref jb6) jbQ p1 hw) (cwV 1 hts gX10_hare_X1_isCaught rfl rfl rfl (by decide +kernel) ⟨nbq rfl, nbq rfl⟩) ⟨qab, va_recv (q := (RX1, TX1, 4)) hK hPc (ci := 1) (q0 := 0) rfl rfl, qae hPc hK hDc hNw⟩ rfl rfl hl.1 rfl (lv_room (nbq rfl)) (qaa qh7 3 rfl) ⟨nbq rfl, nbq rfl⟩) hS (fun q _ h => hFc q h) hFc (fun r9 u t H1 locs ht hvm hw hB hz1 hk1 hS => ?_)
      obtain ⟨hP1, hK1, hD1⟩ := hB
      rw [ht] at hP1
      obtain ⟨hP, hD⟩ := qad (wr := (qami a0 jaK jaR ja1 jcp jbc jbV ja3 jbH jaT jbO jaq jac jbI jbl jbn jba jaa x1 x2 jaR jcB jcC jbo jbp jbk jcG jbf jbq jef jbm jbi jcd jb6 jbW jbL jcl jcc jdh jcc cyI jfl jcl cyI jfM jbW cyI jdN jbL cyI jdi jcG cyI jfT)) (w1 := (qDk jaT jbb jbr jaR jb6 jbb cyI jbQ)) (wn := (qvZ a0 jaK jaR ja1 jcp jbc jbV ja3 jbH jaT jbO jaq jac jbI jbl jbn jba jaa x1 x2 jaR jcB jcC jbo jbp jbk jcG jbf jbq jef jbm jbi jcd jaT jbb jbr jaR jb6 jbb cyI jbQ jb6 jbW jbL jcl jcc jdh jcc cyI jfl jcl cyI jfM jbW cyI jdN jbL cyI jdi jcG cyI jfT)) hP hD [2, 3] [0, 1, 4, 5, 6, 7, 8, 9] [0, 1, 8, 9, 2, 3, 4, 5, 6, 7] hCc rfl (by decide +kernel) (by decide +kernel) (by decide +kernel) rfl hk1 hFc hP1 hD1
      generalize H1 = H at hP hS ⊢
      refine lv_if_eq (tgt := 71) hx hb (qaa qh7 4 rfl) (by decide) (fun c10 => ?_) (fun c10 => ?_)
      · have hw := hw.1 c10
        refine lv_aload_n hx hb (qaa qh7 7 rfl) rfl (lv_at hl 0 rfl) ?_
        refine va_get (D := (dC, dI)) (ci := 10) (v := .ref jaT) (C := RX10) (T := TX10) (N := 19) hx hb hts qqL hown hK hP 0 rfl rfl 8 (by decide) (hts _ qsk) (fun _ h9 => h9) rfl (qaa qh7 8 rfl) ?_
        refine lv_iload_n hx hb (qaa qh7 9 rfl) rfl (lv_at hl 1 rfl) ?_
        obtain ⟨hCc, hPc, hDc, hFc⟩ := qac (ws' := (qDk jaT jbb jbr jaR jb6 jbb cyI jbQ)) hP hD hS hA [2, 3] (by decide +kernel) rfl
        refine va_calli (va_runV (As := [.int p1]) (rest := []) ⟨hx, hb, hml, hown, hts⟩ (qvw l dC dI cyB cyI cyJ cyP jaT jbb H.size (jbr) (.ref jaR) (.ref jb6) jbQ p1 hw) (cwV 1 hts gX10_hare_X1_sits rfl rfl rfl (by decide +kernel) ⟨nbq rfl, nbq rfl⟩) ⟨qab, va_recv (q := (RX1, TX1, 4)) hK hPc (ci := 1) (q0 := 0) rfl rfl, qae hPc hK hDc hNw⟩ rfl rfl hl.1 rfl (lv_room (nbq rfl)) (qaa qh7 10 rfl) ⟨nbq rfl, nbq rfl⟩) hS (fun q _ h => hFc q h) hFc (fun r11 u t H1 locs ht hvm hw hB hz1 hk1 hS => ?_)
        obtain ⟨hP1, hK1, hD1⟩ := hB
        rw [ht] at hP1
        obtain ⟨hP, hD⟩ := qad (wr := (qami a0 jaK jaR ja1 jcp jbc jbV ja3 jbH jaT jbO jaq jac jbI jbl jbn jba jaa x1 x2 jaR jcB jcC jbo jbp jbk jcG jbf jbq jef jbm jbi jcd jb6 jbW jbL jcl jcc jdh jcc cyI jfl jcl cyI jfM jbW cyI jdN jbL cyI jdi jcG cyI jfT)) (w1 := (qDk jaT jbb jbr jaR jb6 jbb cyI jbQ)) (wn := (qvZ a0 jaK jaR ja1 jcp jbc jbV ja3 jbH jaT jbO jaq jac jbI jbl jbn jba jaa x1 x2 jaR jcB jcC jbo jbp jbk jcG jbf jbq jef jbm jbi jcd jaT jbb jbr jaR jb6 jbb cyI jbQ jb6 jbW jbL jcl jcc jdh jcc cyI jfl jcl cyI jfM jbW cyI jdN jbL cyI jdi jcG cyI jfT)) hP hD [2, 3] [0, 1, 4, 5, 6, 7, 8, 9] [0, 1, 8, 9, 2, 3, 4, 5, 6, 7] hCc rfl (by decide +kernel) (by decide +kernel) (by decide +kernel) rfl hk1 hFc hP1 hD1
        generalize H1 = H at hP hS ⊢
        exact vx_ret (W.widen (k := 2) (n := 12) (nbq rfl) (nbq rfl) (W.iret (v := r11) hx hb hr (fun t ht hW => ⟨⟨r11, (x1, x2, jfl, jfM), rfl, hw, by rw [ht]; exact hP, va_K.moved hW.alike hK, hD⟩, hS.F ht⟩) hS.2.2 (qaa qh7 11 rfl)))
      · have hw := hw.2 c10
        refine lv_iconst (v := (-1)) hx hb (qaa qh7 5 rfl) (by decide) ?_
        refine lv_goto (tgt := 79) hx hb (qaa qh7 6 rfl) (by decide) ?_
        exact vx_ret (W.widen (k := 2) (n := 12) (nbq rfl) (nbq rfl) (W.iret (v := (-1)) hx hb hr (fun t ht hW => ⟨⟨(-1), (x1, x2, jfl, jfM), rfl, hw, by rw [ht]; exact hP, va_K.moved hW.alike hK, hD⟩, hS.F ht⟩) hS.2.2 (qaa qh7 11 rfl)))
    · have hw := hw.2.1 c3
      refine lv_tableIn (tgt := 80) (off := 66) hx hb dX10_hare_14 (by rw [c3]; decide) (by rw [c3]; decide) (by rw [c3]; decide) (by decide) ?_
      refine lv_aload_n hx hb (qaa qh7 12 rfl) rfl (lv_at hl 0 rfl) ?_
      refine va_get (D := (dC, dI)) (ci := 10) (v := .ref jaT) (C := RX10) (T := TX10) (N := 19) hx hb hts qqL hown hK hP 0 rfl rfl 8 (by decide) (hts _ qsk) (fun _ h9 => h9) rfl (qaa qh7 13 rfl) ?_
      refine lv_iload_n hx hb (qaa qh7 14 rfl) rfl (lv_at hl 1 rfl) ?_
      obtain ⟨hCc, hPc, hDc, hFc⟩ := qac (ws' := (qDk jaT jbb jbr jaR jb6 jbb cyI jbQ)) hP hD hS hA [2, 3] (by decide +kernel) rfl
      refine va_calli (va_runV (As := [.int p1]) (rest := []) ⟨hx, hb, hml, hown, hts⟩ (qsD l dC dI cyB cyI cyJ cyP jaT jbb H.size (jbr) (.ref jaR) (.ref jb6) jbQ p1 hw) (cwV 1 hts gX10_hare_X1_strong rfl rfl rfl (by decide +kernel) ⟨nbq rfl, nbq rfl⟩) ⟨qab, va_recv (q := (RX1, TX1, 4)) hK hPc (ci := 1) (q0 := 0) rfl rfl, qae hPc hK hDc hNw⟩ rfl rfl hl.1 rfl (lv_room (nbq rfl)) (qaa qh7 15 rfl) ⟨nbq rfl, nbq rfl⟩) hS (fun q _ h => hFc q h) hFc (fun r12 u t H1 locs ht hvm hw hB hz1 hk1 hS => ?_)
      obtain ⟨hP1, hK1, hD1⟩ := hB
      rw [ht] at hP1
      obtain ⟨hP, hD⟩ := qad (wr := (qami a0 jaK jaR ja1 jcp jbc jbV ja3 jbH jaT jbO jaq jac jbI jbl jbn jba jaa x1 x2 jaR jcB jcC jbo jbp jbk jcG jbf jbq jef jbm jbi jcd jb6 jbW jbL jcl jcc jdh jcc cyI jfl jcl cyI jfM jbW cyI jdN jbL cyI jdi jcG cyI jfT)) (w1 := (qDk jaT jbb jbr jaR jb6 jbb cyI jbQ)) (wn := (qvZ a0 jaK jaR ja1 jcp jbc jbV ja3 jbH jaT jbO jaq jac jbI jbl jbn jba jaa x1 x2 jaR jcB jcC jbo jbp jbk jcG jbf jbq jef jbm jbi jcd jaT jbb jbr jaR jb6 jbb cyI jbQ jb6 jbW jbL jcl jcc jdh jcc cyI jfl jcl cyI jfM jbW cyI jdN jbL cyI jdi jcG cyI jfT)) hP hD [2, 3] [0, 1, 4, 5, 6, 7, 8, 9] [0, 1, 8, 9, 2, 3, 4, 5, 6, 7] hCc rfl (by decide +kernel) (by decide +kernel) (by decide +kernel) rfl hk1 hFc hP1 hD1
      generalize H1 = H at hP hS ⊢
      exact vx_ret (W.widen (k := 2) (n := 12) (nbq rfl) (nbq rfl) (W.iret (v := r12) hx hb hr (fun t ht hW => ⟨⟨r12, (x1, x2, jfl, jfM), rfl, hw, by rw [ht]; exact hP, va_K.moved hW.alike hK, hD⟩, hS.F ht⟩) hS.2.2 (qaa qj5 0 rfl)))
    · have hw := hw.2.2.1 c3
      refine lv_tableIn (tgt := 89) (off := 75) hx hb dX10_hare_14 (by rw [c3]; decide) (by rw [c3]; decide) (by rw [c3]; decide) (by decide) ?_
      refine lv_aload_n hx hb (qaa qj5 1 rfl) rfl (lv_at hl 0 rfl) ?_
      refine va_get (D := (dC, dI)) (ci := 10) (v := .ref jaR) (C := RX10) (T := TX10) (N := 19) hx hb hts qqL hown hK hP 0 rfl rfl 1 (by decide) (hts _ qaCp) (fun _ h9 => h9) rfl (qaa qj5 2 rfl) ?_
      refine va_get (D := (dC, dI)) (ci := 2) (v := .ref jcG) (C := RX2) (T := TX2) (N := 12) hx hb hts qaHc hown hK hP 1 rfl rfl 5 (by decide) (hts _ qaub) (fun _ h9 => h9) rfl (qaa qj5 3 rfl) ?_
      refine lv_iload_n hx hb (qaa qj5 4 rfl) rfl (lv_at hl 1 rfl) ?_
      obtain ⟨hi9, hw⟩ := hw
      refine va_iald hx hb hK hP 9 1 rfl rfl hi9 (qaa qj5 5 rfl) ?_
      refine lv_topi (fun x13 ex13 => ?_)
      have hw := hw x13 ex13
      exact vx_ret (W.widen (k := 2) (n := 12) (nbq rfl) (nbq rfl) (W.iret (v := x13) hx hb hr (fun t ht hW => ⟨⟨x13, (x1, x2, jfl, jfM), rfl, hw, by rw [ht]; exact hP, va_K.moved hW.alike hK, hD⟩, hS.F ht⟩) hS.2.2 (qaa qj5 6 rfl)))
    · have hw := hw.2.2.2.1 c3
      refine lv_tableIn (tgt := 99) (off := 85) hx hb dX10_hare_14 (by rw [c3]; decide) (by rw [c3]; decide) (by rw [c3]; decide) (by decide) ?_
      refine lv_aload_n hx hb (qaa qj5 7 rfl) rfl (lv_at hl 0 rfl) ?_
      refine va_get (D := (dC, dI)) (ci := 10) (v := .ref jaT) (C := RX10) (T := TX10) (N := 19) hx hb hts qqL hown hK hP 0 rfl rfl 8 (by decide) (hts _ qsk) (fun _ h9 => h9) rfl (qaa qj5 8 rfl) ?_
      refine lv_iload_n hx hb (qaa qj5 9 rfl) rfl (lv_at hl 1 rfl) ?_
      obtain ⟨hCc, hPc, hDc, hFc⟩ := qac (ws' := (qDk jaT jbb jbr jaR jb6 jbb cyI jbQ)) hP hD hS hA [2, 3] (by decide +kernel) rfl
      refine va_calli (va_runV (As := [.int p1]) (rest := []) ⟨hx, hb, hml, hown, hts⟩ (q9d l dC dI cyB cyI cyJ cyP jaT jbb H.size (jbr) (.ref jaR) (.ref jb6) jbQ p1 hw) (cwV 1 hts gX10_hare_X1_still rfl rfl rfl (by decide +kernel) ⟨nbq rfl, nbq rfl⟩) ⟨qab, va_recv (q := (RX1, TX1, 4)) hK hPc (ci := 1) (q0 := 0) rfl rfl, qae hPc hK hDc hNw⟩ rfl rfl hl.1 rfl (lv_room (nbq rfl)) (qaa qj5 10 rfl) ⟨nbq rfl, nbq rfl⟩) hS (fun q _ h => hFc q h) hFc (fun r14 u t H1 locs ht hvm hw hB hz1 hk1 hS => ?_)
      obtain ⟨hP1, hK1, hD1⟩ := hB
      rw [ht] at hP1
      obtain ⟨hP, hD⟩ := qad (wr := (qami a0 jaK jaR ja1 jcp jbc jbV ja3 jbH jaT jbO jaq jac jbI jbl jbn jba jaa x1 x2 jaR jcB jcC jbo jbp jbk jcG jbf jbq jef jbm jbi jcd jb6 jbW jbL jcl jcc jdh jcc cyI jfl jcl cyI jfM jbW cyI jdN jbL cyI jdi jcG cyI jfT)) (w1 := (qDk jaT jbb jbr jaR jb6 jbb cyI jbQ)) (wn := (qvZ a0 jaK jaR ja1 jcp jbc jbV ja3 jbH jaT jbO jaq jac jbI jbl jbn jba jaa x1 x2 jaR jcB jcC jbo jbp jbk jcG jbf jbq jef jbm jbi jcd jaT jbb jbr jaR jb6 jbb cyI jbQ jb6 jbW jbL jcl jcc jdh jcc cyI jfl jcl cyI jfM jbW cyI jdN jbL cyI jdi jcG cyI jfT)) hP hD [2, 3] [0, 1, 4, 5, 6, 7, 8, 9] [0, 1, 8, 9, 2, 3, 4, 5, 6, 7] hCc rfl (by decide +kernel) (by decide +kernel) (by decide +kernel) rfl hk1 hFc hP1 hD1
      generalize H1 = H at hP hS ⊢
      exact vx_ret (W.widen (k := 2) (n := 12) (nbq rfl) (nbq rfl) (W.iret (v := r14) hx hb hr (fun t ht hW => ⟨⟨r14, (x1, x2, jfl, jfM), rfl, hw, by rw [ht]; exact hP, va_K.moved hW.alike hK, hD⟩, hS.F ht⟩) hS.2.2 (qaa qj5 11 rfl)))
    · have hw := hw.2.2.2.2.1 c3
      refine lv_tableIn (tgt := 108) (off := 94) hx hb dX10_hare_14 (by rw [c3]; decide) (by rw [c3]; decide) (by rw [c3]; decide) (by decide) ?_
      refine lv_aload_n hx hb (qaa qj5 12 rfl) rfl (lv_at hl 0 rfl) ?_
      refine va_get (D := (dC, dI)) (ci := 10) (v := .ref jaT) (C := RX10) (T := TX10) (N := 19) hx hb hts qqL hown hK hP 0 rfl rfl 8 (by decide) (hts _ qsk) (fun _ h9 => h9) rfl (qaa qj5 13 rfl) ?_
      refine lv_iload_n hx hb (qaa qj5 14 rfl) rfl (lv_at hl 1 rfl) ?_
      obtain ⟨hCc, hPc, hDc, hFc⟩ := qac (ws' := (qDk jaT jbb jbr jaR jb6 jbb cyI jbQ)) hP hD hS hA [2, 3] (by decide +kernel) rfl
      refine va_calli (va_runV (As := [.int p1]) (rest := []) ⟨hx, hb, hml, hown, hts⟩ (qaB4 l dC dI cyB cyI cyJ cyP jaT jbb H.size (jbr) (.ref jaR) (.ref jb6) jbQ p1 hw) (cwV 1 hts gX10_hare_X1_leaps rfl rfl rfl (by decide +kernel) ⟨nbq rfl, nbq rfl⟩) ⟨qab, va_recv (q := (RX1, TX1, 4)) hK hPc (ci := 1) (q0 := 0) rfl rfl, qae hPc hK hDc hNw⟩ rfl rfl hl.1 rfl (lv_room (nbq rfl)) (qaa qj5 15 rfl) ⟨nbq rfl, nbq rfl⟩) hS (fun q _ h => hFc q h) hFc (fun r15 u t H1 locs ht hvm hw hB hz1 hk1 hS => ?_)
      obtain ⟨hP1, hK1, hD1⟩ := hB
      rw [ht] at hP1
      obtain ⟨hP, hD⟩ := qad (wr := (qami a0 jaK jaR ja1 jcp jbc jbV ja3 jbH jaT jbO jaq jac jbI jbl jbn jba jaa x1 x2 jaR jcB jcC jbo jbp jbk jcG jbf jbq jef jbm jbi jcd jb6 jbW jbL jcl jcc jdh jcc cyI jfl jcl cyI jfM jbW cyI jdN jbL cyI jdi jcG cyI jfT)) (w1 := (qDk jaT jbb jbr jaR jb6 jbb cyI jbQ)) (wn := (qvZ a0 jaK jaR ja1 jcp jbc jbV ja3 jbH jaT jbO jaq jac jbI jbl jbn jba jaa x1 x2 jaR jcB jcC jbo jbp jbk jcG jbf jbq jef jbm jbi jcd jaT jbb jbr jaR jb6 jbb cyI jbQ jb6 jbW jbL jcl jcc jdh jcc cyI jfl jcl cyI jfM jbW cyI jdN jbL cyI jdi jcG cyI jfT)) hP hD [2, 3] [0, 1, 4, 5, 6, 7, 8, 9] [0, 1, 8, 9, 2, 3, 4, 5, 6, 7] hCc rfl (by decide +kernel) (by decide +kernel) (by decide +kernel) rfl hk1 hFc hP1 hD1
      generalize H1 = H at hP hS ⊢
      exact vx_ret (W.widen (k := 2) (n := 12) (nbq rfl) (nbq rfl) (W.iret (v := r15) hx hb hr (fun t ht hW => ⟨⟨r15, (x1, x2, jfl, jfM), rfl, hw, by rw [ht]; exact hP, va_K.moved hW.alike hK, hD⟩, hS.F ht⟩) hS.2.2 (qaa qg2 0 rfl)))
    · have hw := hw.2.2.2.2.2.1 c3
      refine lv_tableIn (tgt := 117) (off := 103) hx hb dX10_hare_14 (by rw [c3]; decide) (by rw [c3]; decide) (by rw [c3]; decide) (by decide) ?_
      refine lv_aload_n hx hb (qaa qg2 1 rfl) rfl (lv_at hl 0 rfl) ?_
      refine va_get (D := (dC, dI)) (ci := 10) (v := .ref jaT) (C := RX10) (T := TX10) (N := 19) hx hb hts qqL hown hK hP 0 rfl rfl 8 (by decide) (hts _ qsk) (fun _ h9 => h9) rfl (qaa qg2 2 rfl) ?_
      refine lv_iload_n hx hb (qaa qg2 3 rfl) rfl (lv_at hl 1 rfl) ?_
      obtain ⟨hCc, hPc, hDc, hFc⟩ := qac (ws' := (qaOC jaT jbb jbr jaR jb6 jaR jcB jcC jbo jbp jbk jcG jbf jbq jef jbm jbi jcd jbb cyI jbQ)) hP hD hS hA [2, 1, 3] (by decide +kernel) rfl
      refine va_calli (va_runV (As := [.int p1]) (rest := []) ⟨hx, hb, hml, hown, hts⟩ (qaiy l dC dI cyB cyI cyJ cyP jaT jaR jbb H.size (jbr) (.ref jb6) (jcB) (jcC) (jbo) (jbp) (jbk) (.ref jcG) (jbf) (jbq) (jef) (jbi) (jcd) jbm jbQ p1 hw) (cwV 1 hts gX10_hare_X1_owes rfl rfl rfl (by decide +kernel) ⟨nbq rfl, nbq rfl⟩) ⟨qab, va_recv (q := (RX1, TX1, 4)) hK hPc (ci := 1) (q0 := 0) rfl rfl, qae hPc hK hDc hNw⟩ rfl rfl hl.1 rfl (lv_room (nbq rfl)) (qaa qg2 4 rfl) ⟨nbq rfl, nbq rfl⟩) hS (fun q _ h => hFc q h) hFc (fun r16 u t H1 locs ht hvm hw hB hz1 hk1 hS => ?_)
      obtain ⟨hP1, hK1, hD1⟩ := hB
      rw [ht] at hP1
      obtain ⟨hP, hD⟩ := qad (wr := (qa67 a0 jaK jaR ja1 jcp jbc jbV ja3 jbH jaT jbO jaq jac jbI jbl jbn jba jaa x1 x2 jb6 jbW jbL jcl jcc jdh jcc cyI jfl jcl cyI jfM jbW cyI jdN jbL cyI jdi jcG cyI jfT)) (w1 := (qaOC jaT jbb jbr jaR jb6 jaR jcB jcC jbo jbp jbk jcG jbf jbq jef jbm jbi jcd jbb cyI jbQ)) (wn := (qvZ a0 jaK jaR ja1 jcp jbc jbV ja3 jbH jaT jbO jaq jac jbI jbl jbn jba jaa x1 x2 jaR jcB jcC jbo jbp jbk jcG jbf jbq jef jbm jbi jcd jaT jbb jbr jaR jb6 jbb cyI jbQ jb6 jbW jbL jcl jcc jdh jcc cyI jfl jcl cyI jfM jbW cyI jdN jbL cyI jdi jcG cyI jfT)) hP hD [2, 1, 3] [0, 4, 5, 6, 7, 8, 9] [0, 8, 7, 9, 1, 2, 3, 4, 5, 6] hCc rfl (by decide +kernel) (by decide +kernel) (by decide +kernel) rfl hk1 hFc hP1 hD1
      generalize H1 = H at hP hS ⊢
      exact vx_ret (W.widen (k := 2) (n := 12) (nbq rfl) (nbq rfl) (W.iret (v := r16) hx hb hr (fun t ht hW => ⟨⟨r16, (x1, x2, jfl, jfM), rfl, hw, by rw [ht]; exact hP, va_K.moved hW.alike hK, hD⟩, hS.F ht⟩) hS.2.2 (qaa qg2 5 rfl)))
    · have hw := hw.2.2.2.2.2.2 c3
      refine lv_tableIn (tgt := 126) (off := 112) hx hb dX10_hare_14 (by rw [c3]; decide) (by rw [c3]; decide) (by rw [c3]; decide) (by decide) ?_
      refine lv_aload_n hx hb (qaa qg2 6 rfl) rfl (lv_at hl 0 rfl) ?_
      refine va_get (D := (dC, dI)) (ci := 10) (v := .ref jaT) (C := RX10) (T := TX10) (N := 19) hx hb hts qqL hown hK hP 0 rfl rfl 8 (by decide) (hts _ qsk) (fun _ h9 => h9) rfl (qaa qg2 7 rfl) ?_
      refine lv_iload_n hx hb (qaa qg2 8 rfl) rfl (lv_at hl 1 rfl) ?_
      obtain ⟨hCc, hPc, hDc, hFc⟩ := qac (ws' := (qaOC jaT jbb jbr jaR jb6 jaR jcB jcC jbo jbp jbk jcG jbf jbq jef jbm jbi jcd jbb cyI jbQ)) hP hD hS hA [2, 1, 3] (by decide +kernel) rfl
      refine va_calli (va_runV (As := [.int p1]) (rest := []) ⟨hx, hb, hml, hown, hts⟩ (qaj8 l dC dI cyB cyI cyJ cyP jaT jaR jbb H.size (jbr) (.ref jb6) (jcB) (jcC) (jbo) (jbp) (jbk) (.ref jcG) (jbf) (jbq) (jef) (jbi) (jcd) jbm jbQ p1 hw) (cwV 1 hts gX10_hare_X1_owed rfl rfl rfl (by decide +kernel) ⟨nbq rfl, nbq rfl⟩) ⟨qab, va_recv (q := (RX1, TX1, 4)) hK hPc (ci := 1) (q0 := 0) rfl rfl, qae hPc hK hDc hNw⟩ rfl rfl hl.1 rfl (lv_room (nbq rfl)) (qaa qg2 9 rfl) ⟨nbq rfl, nbq rfl⟩) hS (fun q _ h => hFc q h) hFc (fun r17 u t H1 locs ht hvm hw hB hz1 hk1 hS => ?_)
      obtain ⟨hP1, hK1, hD1⟩ := hB
      rw [ht] at hP1
      obtain ⟨hP, hD⟩ := qad (wr := (qa67 a0 jaK jaR ja1 jcp jbc jbV ja3 jbH jaT jbO jaq jac jbI jbl jbn jba jaa x1 x2 jb6 jbW jbL jcl jcc jdh jcc cyI jfl jcl cyI jfM jbW cyI jdN jbL cyI jdi jcG cyI jfT)) (w1 := (qaOC jaT jbb jbr jaR jb6 jaR jcB jcC jbo jbp jbk jcG jbf jbq jef jbm jbi jcd jbb cyI jbQ)) (wn := (qvZ a0 jaK jaR ja1 jcp jbc jbV ja3 jbH jaT jbO jaq jac jbI jbl jbn jba jaa x1 x2 jaR jcB jcC jbo jbp jbk jcG jbf jbq jef jbm jbi jcd jaT jbb jbr jaR jb6 jbb cyI jbQ jb6 jbW jbL jcl jcc jdh jcc cyI jfl jcl cyI jfM jbW cyI jdN jbL cyI jdi jcG cyI jfT)) hP hD [2, 1, 3] [0, 4, 5, 6, 7, 8, 9] [0, 8, 7, 9, 1, 2, 3, 4, 5, 6] hCc rfl (by decide +kernel) (by decide +kernel) (by decide +kernel) rfl hk1 hFc hP1 hD1
      generalize H1 = H at hP hS ⊢
      exact vx_ret (W.widen (k := 2) (n := 12) (nbq rfl) (nbq rfl) (W.iret (v := r17) hx hb hr (fun t ht hW => ⟨⟨r17, (x1, x2, jfl, jfM), rfl, hw, by rw [ht]; exact hP, va_K.moved hW.alike hK, hD⟩, hS.F ht⟩) hS.2.2 (qaa qg2 10 rfl)))
theorem qaI6 : (.classLink RL 13 "java/lang/IllegalArgumentException" : Cond) ∈ wsL_hare := qacE 595 (by decide +kernel)
theorem q7V : (.classLink RL 31 "java/util/NoSuchElementException" : Cond) ∈ wsL_hare := qacE 2639 (by decide +kernel)
theorem qaVO : (.codeWith yL_hare cL_hare 5 (some .int) [(0, 10, 13, 31), (0, 10, 17, 13)] : Cond) ∈ wsL_hare := qacE 2705 (by decide +kernel)
set_option maxHeartbeats 4000000 in
set_option maxRecDepth 100000 in
theorem qa8h (l : Launch) (dC : Nat → ClassId) (dI : Nat → Nat → Nat) (cyB cyI cyJ cyP : ClassId) (a0 a3 jaR jaT jbb jb6 jcc jcl jbW jbL jcG sz : Nat) (jaK ja1 jbc jbV ja3 jbH jbO jaq jac jbI jbl jbn jba jaa jcB jcC jbo jbp jbk jbf jbq jef jbi jcd jbr : Value) (n3 : Nat) (jbm : Int32) (jbQ : NI) (jdh : Int32) (jdN jdi jfT : NI) (jdu jbz : Int32) (jfl jfM : NI) (f3 : Nat → Int64) (p1 p2 : Int32) {Q : Int32 → Int32 → Int32 → NI → NI → (Nat → Int64) → Prop} (hw : qaT6 n3 jbm jbQ jdh jdN jdi jfT jdu jbz jfl jfM f3 p1 p2 Q) : Met l yL_hare wsL_hare ({ frames := 9, cells := 2, slots := 12, locals := 186 }) (va_Pc [.ref a0, .int p1, .int p2, .ref a3] (cPx l (dC, dI) (kT cyB cyI cyJ cyP) (qLY a0 jaK jaR ja1 jb6 jbc jbV ja3 jbH jaT jbO jaq jac jbI jbl jbn jba jaa jdu jbz jaR jcB jcC jbo jbp jbk jcG jbf jbq jef jbm jbi jcd jaT jbb jbr jaR jb6 jbb cyI jbQ jb6 jbW jbL jcl jcc jdh jcc cyI jfl jcl cyI jfM jbW cyI jdN jbL cyI jdi jcG cyI jfT a3 cyJ n3 f3) sz)) (va_Qi (fun (r : Int32) (u : Int32 × Int32 × NI × NI × (Nat → Int64)) => Q r u.1 u.2.1 u.2.2.1 u.2.2.2.1 u.2.2.2.2) (cB (dC, dI) (kT cyB cyI cyJ cyP) (va_A (qLY a0 jaK jaR ja1 jb6 jbc jbV ja3 jbH jaT jbO jaq jac jbI jbl jbn jba jaa jdu jbz jaR jcB jcC jbo jbp jbk jcG jbf jbq jef jbm jbi jcd jaT jbb jbr jaR jb6 jbb cyI jbQ jb6 jbW jbL jcl jcc jdh jcc cyI jfl jcl cyI jfM jbW cyI jdN jbL cyI jdi jcG cyI jfT a3 cyJ n3 f3) sz) (fun u : Int32 × Int32 × NI × NI × (Nat → Int64) => ((qLY a0 jaK jaR ja1 jb6 jbc jbV ja3 jbH jaT jbO jaq jac jbI jbl jbn jba jaa u.1 u.2.1 jaR jcB jcC jbo jbp jbk jcG jbf jbq jef jbm jbi jcd jaT jbb jbr jaR jb6 jbb cyI jbQ jb6 jbW jbL jcl jcc jdh jcc cyI u.2.2.1 jcl cyI u.2.2.2.1 jbW cyI jdN jbL cyI jdi jcG cyI jfT a3 cyJ n3 u.2.2.2.2) : va_W))) (va_A (qLY a0 jaK jaR ja1 jb6 jbc jbV ja3 jbH jaT jbO jaq jac jbI jbl jbn jba jaa jdu jbz jaR jcB jcC jbo jbp jbk jcG jbf jbq jef jbm jbi jcd jaT jbb jbr jaR jb6 jbb cyI jbQ jb6 jbW jbL jcl jcc jdh jcc cyI jfl jcl cyI jfM jbW cyI jdN jbL cyI jdi jcG cyI jfT a3 cyJ n3 f3) sz)) 2 12 (va_A (qLY a0 jaK jaR ja1 jb6 jbc jbV ja3 jbH jaT jbO jaq jac jbI jbl jbn jba jaa jdu jbz jaR jcB jcC jbo jbp jbk jcG jbf jbq jef jbm jbi jcd jaT jbb jbr jaR jb6 jbb cyI jbQ jb6 jbW jbL jcl jcc jdh jcc cyI jfl jcl cyI jfM jbW cyI jdN jbL cyI jdi jcG cyI jfT a3 cyJ n3 f3) sz) := by
  refine va_MetW (cc := cL_hare) (maxL := 5) (ret := (some .int)) (by decide) rfl ?_
  intro p e s m args below meth c s₁ B hml hv
  obtain ⟨rfl, hsz, hP, hK, hD0, hNw, hXl, hXu, hXn, hXt⟩ := hv
  have hx := B.exec
  have hb := B.bytes
  have hr := B.returns
  have hts := atoms_spec (ws := wsL_hare) B.pre
  have hown : s.vm.findClass RL = some m.cls := findClass_of_methodNamed B.named
  have hlocks := B.notSynchronized
  subst hsz
  have hD := hD0.self (sz := s.heap.size)
  generalize hAe : va_A (qLY a0 jaK jaR ja1 jb6 jbc jbV ja3 jbH jaT jbO jaq jac jbI jbl jbn jba jaa jdu jbz jaR jcB jcC jbo jbp jbk jcG jbf jbq jef jbm jbi jcd jaT jbb jbr jaR jb6 jbb cyI jbQ jb6 jbW jbL jcl jcc jdh jcc cyI jfl jcl cyI jfM jbW cyI jdN jbL cyI jdi jcG cyI jfT a3 cyJ n3 f3) s.heap.size = A at hD hXu hXn ⊢
  have hA : ∀ q : Nat, s.heap.size ≤ q → A q := fun q h => by rw [← hAe]; exact Or.inr h
  have hS : va_S A s.heap s.heap [] := va_S.rf
  have hP : va_P (dC, dI) vwCl (qLY a0 jaK jaR ja1 jb6 jbc jbV ja3 jbH jaT jbO jaq jac jbI jbl jbn jba jaa jdu jbz jaR jcB jcC jbo jbp jbk jcG jbf jbq jef jbm jbi jcd jaT jbb jbr jaR jb6 jbb cyI jbQ jb6 jbW jbL jcl jcc jdh jcc cyI jfl jcl cyI jfM jbW cyI jdN jbL cyI jdi jcG cyI jfT a3 cyJ n3 f3) s.heap := hP
  have hl := lv_entry ([.ref a0, .int p1, .int p2, .ref a3]) (n := 5) (nbq rfl)
  rw [lg_entry_eq]
  generalize (lg_sl ([.ref a0, .int p1, .int p2, .ref a3]) ++ List.replicate (5 - (lg_sl ([.ref a0, .int p1, .int p2, .ref a3])).length) Slot.unset).toArray = ls at hl ⊢
  have hl : lv_has ls 5 [(0, .ref a0), (1, .int p1), (2, .int p2), (3, .ref a3)] := hl
  have hY : cfY l s A := ⟨hXl, hXu, hXn, hXt⟩
  have hTb := vx_table (x := yL_hare) B (hts _ qaVO)
  clear hAe
  obtain ⟨H, hH⟩ : ∃ H, H = s.heap := ⟨_, rfl⟩
  rw [← hH] at hP ⊢
  have hS : va_S A s.heap H [] := by rw [hH]; exact va_S.rf
  have hS := hS
  refine lv_aload_n hx hb (qaa qpZ 0 rfl) rfl (lv_at hl 3 rfl) ?_
  refine lv_iconst (v := 0) hx hb (qaa qpZ 1 rfl) (by decide) ?_
  refine lv_aload_n hx hb (qaa qpZ 2 rfl) rfl (lv_at hl 0 rfl) ?_
  refine lv_iload_n hx hb (qaa qpZ 3 rfl) rfl (lv_at hl 1 rfl) ?_
  refine lv_iload_n hx hb (qaa qpZ 4 rfl) rfl (lv_at hl 2 rfl) ?_
  obtain ⟨hCc, hPc, hDc, hFc⟩ := qac (ws' := (qaXq a0 jaK jaR ja1 jb6 jbc jbV ja3 jbH jaT jbO jaq jac jbI jbl jbn jba jaa jdu jbz jaR jcB jcC jbo jbp jbk jcG jbf jbq jef jbm jbi jcd jaT jbb jbr jaR jb6 jbb cyI jbQ jb6 jbW jbL jcl jcc jdh jcc cyI jfl jcl cyI jfM jbW cyI jdN jbL cyI jdi jcG cyI jfT)) hP hD hS hA [0, 1, 2, 3, 4, 5, 6, 7, 8, 9] (by decide +kernel) rfl
  refine vx_calli (vx_runV (As := [.int p1, .int p2]) (rest := [.int 0, .ref a3]) ⟨hx, hb, hml, hown, hts⟩ (qaXQ l dC dI cyB cyI cyJ cyP a0 jaR jaT jbb jb6 jcc jcl jbW jbL jcG H.size (jaK) (ja1) (.ref jb6) (jbc) (jbV) (ja3) (jbH) (jbO) (jaq) (jac) (jbI) (jbl) (jbn) (jba) (jaa) (jcB) (jcC) (jbo) (jbp) (jbk) (jbf) (jbq) (jef) (jbi) (jcd) (jbr) jbm jbQ jdh jdN jdi jfT jdu jbz jfl jfM p1 p2 hw) (cwV 2 hts gL_hare_X10_hare rfl rfl rfl (by decide +kernel) ⟨nbq rfl, nbq rfl⟩) ⟨qav, va_recv (q := (RX10, TX10, 19)) hK hPc (ci := 10) (q0 := 0) rfl rfl, qbl hPc hK hDc hNw hY hS hFc⟩ rfl rfl hl.1 rfl (lv_room (nbq rfl)) (qaa qpZ 5 rfl) ⟨nbq rfl, nbq rfl⟩) hS (fun q _ h => hFc q h) hFc (fun q _ h => hFc q h) (fun en ce qx9 u t H1 locs ht hvm hpx hB hz1 hk1 hS hc9 hv9 hcl9 => ?_) (fun r6 u t H1 locs ht hvm hw hB hz1 hk1 hS => ?_)
  · obtain ⟨x1, x2, f4, f5⟩ := u
    obtain ⟨hw, hP1, hK1, hD1⟩ := hB
    rw [ht] at hP1
    obtain ⟨hP, hD⟩ := qad (wr := [(a3, .inl (cyJ, n3, .inr (.inl f3)))]) (w1 := (qaXq a0 jaK jaR ja1 jb6 jbc jbV ja3 jbH jaT jbO jaq jac jbI jbl jbn jba jaa x1 x2 jaR jcB jcC jbo jbp jbk jcG jbf jbq jef jbm jbi jcd jaT jbb jbr jaR jb6 jbb cyI jbQ jb6 jbW jbL jcl jcc jdh jcc cyI f4 jcl cyI f5 jbW cyI jdN jbL cyI jdi jcG cyI jfT)) (wn := (qLY a0 jaK jaR ja1 jb6 jbc jbV ja3 jbH jaT jbO jaq jac jbI jbl jbn jba jaa x1 x2 jaR jcB jcC jbo jbp jbk jcG jbf jbq jef jbm jbi jcd jaT jbb jbr jaR jb6 jbb cyI jbQ jb6 jbW jbL jcl jcc jdh jcc cyI f4 jcl cyI f5 jbW cyI jdN jbL cyI jdi jcG cyI jfT a3 cyJ n3 f3)) hP hD [0, 1, 2, 3, 4, 5, 6, 7, 8, 9] [10] [1, 2, 3, 4, 5, 6, 7, 8, 9, 10, 0] hCc rfl (by decide +kernel) (by decide +kernel) (by decide +kernel) rfl hk1 hFc hP1 hD1
    generalize H1 = H at hP hS hc9 ⊢
    rcases hw with ⟨rfl, hw⟩ | ⟨rfl, hw⟩
    · refine vx_catch (own := RL) (name := "java/util/NoSuchElementException") hown [] ⟨0, 10, 13, 31⟩ [⟨0, 10, 17, 13⟩] (hTb.trans rfl) (fun z hz => nomatch hz) (by decide) (by decide) (hts _ q7V) (va_Nw.use rfl (hY.2.2.2.1.2 _ (List.mem_of_getElem? (i := 1) rfl))) hc9 hv9 hcl9 ?_
      refine lv_astore (lv' := [(4, .ref qx9), (0, .ref a0), (1, .int p1), (2, .int p2), (3, .ref a3)]) hx hb (qaa qpZ 9 rfl) hl (by decide) rfl (fun ls hl => ?_)
      refine lv_iconst (v := 1) hx hb (qaa qpZ 10 rfl) (by decide) ?_
      exact (W.widen (k := 2) (n := 12) (nbq rfl) (nbq rfl) (W.iret (v := 1) hx hb hr (fun t ht hW => ⟨⟨1, (x1, x2, f4, f5, f3), rfl, hw, by rw [ht]; exact hP, va_K.moved hW.alike hK, hD⟩, hS.F ht⟩) hS.2.2 (qaa qpZ 11 rfl)))
    · refine vx_catch (own := RL) (name := "java/lang/IllegalArgumentException") hown [⟨0, 10, 13, 31⟩] ⟨0, 10, 17, 13⟩ [] (hTb.trans rfl) (fun z hz => by rw [List.mem_singleton.mp hz]; exact Or.inr ⟨by decide, _, (hts _ q7V), hY.2.2.2.2.2⟩) (by decide) (by decide) (hts _ qaI6) (va_Nw.use rfl (hY.2.2.2.1.2 _ (List.mem_of_getElem? (i := 0) rfl))) hc9 hv9 hcl9 ?_
      refine lv_astore (lv' := [(4, .ref qx9), (0, .ref a0), (1, .int p1), (2, .int p2), (3, .ref a3)]) hx hb (qaa qpZ 12 rfl) hl (by decide) rfl (fun ls hl => ?_)
      refine lv_iconst (v := 2) hx hb (qaa qpZ 13 rfl) (by decide) ?_
      exact (W.widen (k := 2) (n := 12) (nbq rfl) (nbq rfl) (W.iret (v := 2) hx hb hr (fun t ht hW => ⟨⟨2, (x1, x2, f4, f5, f3), rfl, hw, by rw [ht]; exact hP, va_K.moved hW.alike hK, hD⟩, hS.F ht⟩) hS.2.2 (qaa qpZ 14 rfl)))
  obtain ⟨x1, x2, f4, f5⟩ := u
  obtain ⟨hP1, hK1, hD1⟩ := hB
  rw [ht] at hP1
  obtain ⟨hP, hD⟩ := va_join (wr := [(a3, .inl (cyJ, n3, .inr (.inl f3)))]) (w1 := (qaXq a0 jaK jaR ja1 jb6 jbc jbV ja3 jbH jaT jbO jaq jac jbI jbl jbn jba jaa x1 x2 jaR jcB jcC jbo jbp jbk jcG jbf jbq jef jbm jbi jcd jaT jbb jbr jaR jb6 jbb cyI jbQ jb6 jbW jbL jcl jcc jdh jcc cyI f4 jcl cyI f5 jbW cyI jdN jbL cyI jdi jcG cyI jfT)) hP hD [0, 1, 2, 3, 4, 5, 6, 7, 8, 9] [10] rfl rfl (by decide) (by decide) hk1 hFc hP1 hD1
  have hP : va_P (dC, dI) vwCl (qLY a0 jaK jaR ja1 jb6 jbc jbV ja3 jbH jaT jbO jaq jac jbI jbl jbn jba jaa x1 x2 jaR jcB jcC jbo jbp jbk jcG jbf jbq jef jbm jbi jcd jaT jbb jbr jaR jb6 jbb cyI jbQ jb6 jbW jbL jcl jcc jdh jcc cyI f4 jcl cyI f5 jbW cyI jdN jbL cyI jdi jcG cyI jfT a3 cyJ n3 f3) H1 := hP.sub [1, 2, 3, 4, 5, 6, 7, 8, 9, 10, 0] rfl
  have hD : va_D A (qLY a0 jaK jaR ja1 jb6 jbc jbV ja3 jbH jaT jbO jaq jac jbI jbl jbn jba jaa x1 x2 jaR jcB jcC jbo jbp jbk jcG jbf jbq jef jbm jbi jcd jaT jbb jbr jaR jb6 jbb cyI jbQ jb6 jbW jbL jcl jcc jdh jcc cyI f4 jcl cyI f5 jbW cyI jdN jbL cyI jdi jcG cyI jfT a3 cyJ n3 f3) := hD.sub [1, 2, 3, 4, 5, 6, 7, 8, 9, 10, 0] (by decide) rfl
  generalize H1 = H at hP hS ⊢
  refine lv_i2l (v := r6.toInt64) hx hb (qaa qpZ 6 rfl) rfl ?_
  refine lv_topl (fun x7 ex7 => ?_)
  have hw := hw x7 ex7
  obtain ⟨hi9, hw⟩ := hw
  refine va_last hx hb hK hP hD hS 10 2 rfl rfl hi9 (qaa qpZ 7 rfl) (fun H locs hP hD hS => ?_)
  obtain ⟨f8, ef8⟩ : ∃ y : Nat → Int64, y = vp_updL f3 (0 : Int32).toNatClampNeg x7 := ⟨_, rfl⟩
  have hw := hw f8 ef8
  have hP : va_P (dC, dI) vwCl (qLY a0 jaK jaR ja1 jb6 jbc jbV ja3 jbH jaT jbO jaq jac jbI jbl jbn jba jaa x1 x2 jaR jcB jcC jbo jbp jbk jcG jbf jbq jef jbm jbi jcd jaT jbb jbr jaR jb6 jbb cyI jbQ jb6 jbW jbL jcl jcc jdh jcc cyI f4 jcl cyI f5 jbW cyI jdN jbL cyI jdi jcG cyI jfT a3 cyJ n3 f8) H := by rw [ef8]; exact hP
  have hD : va_D A (qLY a0 jaK jaR ja1 jb6 jbc jbV ja3 jbH jaT jbO jaq jac jbI jbl jbn jba jaa x1 x2 jaR jcB jcC jbo jbp jbk jcG jbf jbq jef jbm jbi jcd jaT jbb jbr jaR jb6 jbb cyI jbQ jb6 jbW jbL jcl jcc jdh jcc cyI f4 jcl cyI f5 jbW cyI jdN jbL cyI jdi jcG cyI jfT a3 cyJ n3 f8) := by rw [ef8]; exact hD
  refine lv_goto (tgt := 21) hx hb (qaa qpZ 8 rfl) (by decide) ?_
  refine lv_iconst (v := 0) hx hb (qaa qpZ 15 rfl) (by decide) ?_
  exact (W.widen (k := 2) (n := 12) (nbq rfl) (nbq rfl) (W.iret (v := 0) hx hb hr (fun t ht hW => ⟨⟨0, (x1, x2, f4, f5, f8), rfl, hw, by rw [ht]; exact hP, va_K.moved hW.alike hK, hD⟩, hS.F ht⟩) hS.2.2 (qaa qaUa 0 rfl)))
theorem q6c : ∀ w ∈ u_ws RX2 TX2 12, w ∈ wsX2_formsWithin := uiM qE6 qLp (by decide +kernel)
theorem q4f : (.fieldLink RX2 36 "MarchHares$Down" "forms" "I" : Cond) ∈ wsX2_formsWithin := qE6 720 (by decide +kernel)
set_option maxHeartbeats 4000000 in
set_option maxRecDepth 100000 in
theorem qNN {p : Program} {l : Launch} {e : Env} {s : State} {m : MethodId} {args : Array Value} {below : List Frame} {meth : Method} {c : Code} {A : Nat → Prop} (dC : Nat → ClassId) (dI : Nat → Nat → Nat) (cyB cyI cyJ cyP : ClassId) (a0 jha jhj : Nat) (jlc jld jkJ jiU jj1 jjT ja4 jaP jkk : Value) (jaN : Int32) (jiS jiP : NI) (Q : Int32 → Prop) (K5 : Int32 → Int32 → Int32 → Int32 → Prop) (hK5 : ∀ (H : Heap) (locs : List Loc) (ls : Array Slot) (l1 l2 l3 l4 : Int32), va_P (dC, dI) vwCl (qny a0 jha jhj jlc jld jkJ jiU jj1 jjT jaN ja4 jaP jkk jha cyI jiS jhj cyI jiP) H → va_D A (qny a0 jha jhj jlc jld jkJ jiU jj1 jjT jaN ja4 jaP jkk jha cyI jiS jhj cyI jiP) → va_S A s.heap H locs → lv_has ls 5 [(0, .ref a0), (1, .int l1), (2, .int l2), (3, .int l3), (4, .int l4)] → K5 l1 l2 l3 l4 → W p l e (headSpec wsX2_formsWithin ({ frames := 2, cells := 0, slots := 0, locals := 54 })).room s m args below meth c H locs 0 0 (MQ below (va_Qi (fun (r : Int32) (_ : Unit) => Q r ) (cB (dC, dI) (kT cyB cyI cyJ cyP) A (fun u : Unit => ((qny a0 jha jhj jlc jld jkJ jiU jj1 jjT jaN ja4 jaP jkk jha cyI jiS jhj cyI jiP) : va_W))) A) args s 0 0 A) (F0 m 5 ls [])) (C0 : cfx p s m args meth c cX2_formsWithin (some .int) wsX2_formsWithin RX2 5 A (dC, dI) (kT cyB cyI cyJ cyP)) : ∀ (H : Heap) (locs : List Loc) (ls : Array Slot) (l1 l2 l3 l4 : Int32), va_P (dC, dI) vwCl (qny a0 jha jhj jlc jld jkJ jiU jj1 jjT jaN ja4 jaP jkk jha cyI jiS jhj cyI jiP) H → va_D A (qny a0 jha jhj jlc jld jkJ jiU jj1 jjT jaN ja4 jaP jkk jha cyI jiS jhj cyI jiP) → va_S A s.heap H locs → lv_has ls 5 [(0, .ref a0), (1, .int l1), (2, .int l2), (3, .int l3), (4, .int l4)] → qDr jaN jiS jiP Q K5 l1 l2 l3 l4 → W p l e (headSpec wsX2_formsWithin ({ frames := 2, cells := 0, slots := 0, locals := 54 })).room s m args below meth c H locs 0 0 (MQ below (va_Qi (fun (r : Int32) (_ : Unit) => Q r ) (cB (dC, dI) (kT cyB cyI cyJ cyP) A (fun u : Unit => ((qny a0 jha jhj jlc jld jkJ jiU jj1 jjT jaN ja4 jaP jkk jha cyI jiS jhj cyI jiP) : va_W))) A) args s 0 0 A) (F0 m 32 ls []) := by
  obtain ⟨hx, hb, hr, hts, hown, hlocks, hml, hA, hK, hNw⟩ := id C0
  intro H locs ls l1 l2 l3 l4 hP hD hS hl hw
  obtain ⟨x5, ex5⟩ : ∃ y : Int32, y = l4 + 1 := ⟨_, rfl⟩
  have hw := hw x5 ex5
  refine lv_iinc (v := x5) (lv' := [(4, .int x5), (0, .ref a0), (1, .int l1), (2, .int l2), (3, .int l3)]) hx hb (qaa qoH 4 rfl) hl (k := 4) rfl (by rw [ex5]; rfl) (by decide) rfl (fun ls hl => ?_)
  refine lv_goto (tgt := 5) hx hb (qaa qoH 5 rfl) (by decide) ?_
  exact hK5 _ _ _ l1 l2 l3 x5 hP hD hS (lv_sub hl [1, 2, 3, 4, 0] rfl) hw
set_option maxHeartbeats 4000000 in
set_option maxRecDepth 100000 in
theorem qaan {p : Program} {l : Launch} {e : Env} {s : State} {m : MethodId} {args : Array Value} {below : List Frame} {meth : Method} {c : Code} {A : Nat → Prop} (dC : Nat → ClassId) (dI : Nat → Nat → Nat) (cyB cyI cyJ cyP : ClassId) (a0 jha jhj : Nat) (jlc jld jkJ jiU jj1 jjT ja4 jaP jkk : Value) (jaN : Int32) (jiS jiP : NI) (Q : Int32 → Prop) (C0 : cfx p s m args meth c cX2_formsWithin (some .int) wsX2_formsWithin RX2 5 A (dC, dI) (kT cyB cyI cyJ cyP)) : ∀ (n : Nat) (H : Heap) (locs : List Loc) (ls : Array Slot) (l1 l2 l3 l4 : Int32), va_P (dC, dI) vwCl (qny a0 jha jhj jlc jld jkJ jiU jj1 jjT jaN ja4 jaP jkk jha cyI jiS jhj cyI jiP) H → va_D A (qny a0 jha jhj jlc jld jkJ jiU jj1 jjT jaN ja4 jaP jkk jha cyI jiS jhj cyI jiP) → va_S A s.heap H locs → lv_has ls 5 [(0, .ref a0), (1, .int l1), (2, .int l2), (3, .int l3), (4, .int l4)] → qnG jaN jiS jiP Q n l1 l2 l3 l4 → W p l e (headSpec wsX2_formsWithin ({ frames := 2, cells := 0, slots := 0, locals := 54 })).room s m args below meth c H locs 0 0 (MQ below (va_Qi (fun (r : Int32) (_ : Unit) => Q r ) (cB (dC, dI) (kT cyB cyI cyJ cyP) A (fun u : Unit => ((qny a0 jha jhj jlc jld jkJ jiU jj1 jjT jaN ja4 jaP jkk jha cyI jiS jhj cyI jiP) : va_W))) A) args s 0 0 A) (F0 m 5 ls []) := by
  obtain ⟨hx, hb, hr, hts, hown, hlocks, hml, hA, hK, hNw⟩ := id C0
  intro n
  induction n with
  | zero => intro H locs ls l1 l2 l3 l4 hP hD hS hl hw; exact False.elim hw
  | succ n ih =>
    intro H locs ls l1 l2 l3 l4 hP hD hS hl hw
    refine lv_iload hx hb (qaa qcP 4 rfl) (lv_at hl 4 rfl) ?_
    refine lv_aload_n hx hb (qaa qcP 5 rfl) rfl (lv_at hl 0 rfl) ?_
    refine va_get (D := (dC, dI)) (ci := 2) (v := .int jaN) (C := RX2) (T := TX2) (N := 12) hx hb hts q6c hown hK hP 0 rfl rfl 8 (by decide) (hts _ q4f) (fun _ h9 => h9) rfl (qaa qcP 6 rfl) ?_
    refine lv_icmp_ge (tgt := 38) hx hb (qaa qcP 7 rfl) (by decide) (fun c1 => ?_) (fun c1 => ?_)
    · have hw := hw.1 c1
      refine lv_iload_n hx hb (qaa qoH 6 rfl) rfl (lv_at hl 3 rfl) ?_
      exact ((W.iret (v := l3) hx hb hr (fun t ht hW => ⟨⟨l3, (), rfl, hw, by rw [ht]; exact hP, va_K.moved hW.alike hK, hD⟩, hS.F ht⟩) hS.2.2 (qaa qoH 7 rfl)))
    · have hw := hw.2 c1
      refine lv_aload_n hx hb (qaa qcP 8 rfl) rfl (lv_at hl 0 rfl) ?_
      refine lv_iload_n hx hb (qaa qcP 9 rfl) rfl (lv_at hl 1 rfl) ?_
      refine lv_iload hx hb (qaa qcP 10 rfl) (lv_at hl 4 rfl) ?_
      obtain ⟨hCc, hPc, hDc, hFc⟩ := qac (ws' := (qny a0 jha jhj jlc jld jkJ jiU jj1 jjT jaN ja4 jaP jkk jha cyI jiS jhj cyI jiP)) hP hD hS hA [0, 1, 2] (by decide +kernel) rfl
      refine va_calli (va_runV (As := [.int l1, .int l4]) (rest := []) ⟨hx, hb, hml, hown, hts⟩ (qBF l dC dI cyB cyI cyJ cyP a0 jha jhj H.size (jlc) (jld) (jkJ) (jiU) (jj1) (jjT) (.int jaN) (ja4) (jaP) (jkk) jiS jiP l1 l4 hw) (cwV 2 hts gX2_formsWithin_X2_apart rfl rfl rfl (by decide +kernel) ⟨nbq rfl, nbq rfl⟩) ⟨qab, va_recv (q := (RX2, TX2, 12)) hK hPc (ci := 2) (q0 := 0) rfl rfl, qae hPc hK hDc hNw⟩ rfl rfl hl.1 rfl (lv_room (nbq rfl)) (qaa qcP 11 rfl) ⟨nbq rfl, nbq rfl⟩) hS (fun q _ h => hFc q h) hFc (fun r2 u t H1 locs ht hvm hw hB hz1 hk1 hS => ?_)
      obtain ⟨hP1, hK1, hD1⟩ := hB
      rw [ht] at hP1
      obtain ⟨hP, hD⟩ := qah (wr := []) (w1 := (qny a0 jha jhj jlc jld jkJ jiU jj1 jjT jaN ja4 jaP jkk jha cyI jiS jhj cyI jiP)) (wn := (qny a0 jha jhj jlc jld jkJ jiU jj1 jjT jaN ja4 jaP jkk jha cyI jiS jhj cyI jiP)) hP hD [0, 1, 2] [] hCc rfl (by decide +kernel) (by decide +kernel) rfl hk1 hFc hP1 hD1
      generalize H1 = H at hP hS ⊢
      refine lv_iload_n hx hb (qaa qcP 12 rfl) rfl (lv_at hl 2 rfl) ?_
      refine lv_icmp_gt (tgt := 32) hx hb (qaa qcP 13 rfl) (by decide) (fun c3 => ?_) (fun c3 => ?_)
      · have hw := hw.1 c3
        exact qNN dC dI cyB cyI cyJ cyP a0 jha jhj jlc jld jkJ jiU jj1 jjT ja4 jaP jkk jaN jiS jiP Q (qnG jaN jiS jiP Q n) ih C0 _ _ _ l1 l2 l3 l4 hP hD hS (lv_sub hl [0, 1, 2, 3, 4] rfl) hw
      · have hw := hw.2 c3
        refine lv_iload_n hx hb (qaa qcP 14 rfl) rfl (lv_at hl 3 rfl) ?_
        refine lv_iconst (v := 1) hx hb (qaa qcP 15 rfl) (by decide) ?_
        refine lv_iload hx hb (qaa qoH 0 rfl) (lv_at hl 4 rfl) ?_
        refine lv_ishl hx hb (qaa qoH 1 rfl) ?_
        refine lv_ior hx hb (qaa qoH 2 rfl) ?_
        refine lv_topi (fun x4 ex4 => ?_)
        have hw := hw x4 ex4
        refine lv_istore_n (lv' := [(3, .int x4), (0, .ref a0), (1, .int l1), (2, .int l2), (4, .int l4)]) hx hb (qaa qoH 3 rfl) rfl hl (by decide) rfl (fun ls hl => ?_)
        exact qNN dC dI cyB cyI cyJ cyP a0 jha jhj jlc jld jkJ jiU jj1 jjT ja4 jaP jkk jaN jiS jiP Q (qnG jaN jiS jiP Q n) ih C0 _ _ _ l1 l2 x4 l4 hP hD hS (lv_sub hl [1, 2, 3, 0, 4] rfl) hw
set_option maxHeartbeats 4000000 in
set_option maxRecDepth 100000 in
theorem qJN (l : Launch) (dC : Nat → ClassId) (dI : Nat → Nat → Nat) (cyB cyI cyJ cyP : ClassId) (a0 jha jhj sz : Nat) (jlc jld jkJ jiU jj1 jjT ja4 jaP jkk : Value) (jaN : Int32) (jiS jiP : NI) (p1 p2 : Int32) {Q : Int32 → Prop} (hw : qvA jaN jiS jiP p1 p2 Q) : Met l yX2_formsWithin wsX2_formsWithin ({ frames := 2, cells := 0, slots := 0, locals := 54 }) (va_Pc [.ref a0, .int p1, .int p2] (cPc (dC, dI) (kT cyB cyI cyJ cyP) (qny a0 jha jhj jlc jld jkJ jiU jj1 jjT jaN ja4 jaP jkk jha cyI jiS jhj cyI jiP) sz)) (va_Qi (fun (r : Int32) (_ : Unit) => Q r ) (cB (dC, dI) (kT cyB cyI cyJ cyP) (va_A (qny a0 jha jhj jlc jld jkJ jiU jj1 jjT jaN ja4 jaP jkk jha cyI jiS jhj cyI jiP) sz) (fun u : Unit => ((qny a0 jha jhj jlc jld jkJ jiU jj1 jjT jaN ja4 jaP jkk jha cyI jiS jhj cyI jiP) : va_W))) (va_A (qny a0 jha jhj jlc jld jkJ jiU jj1 jjT jaN ja4 jaP jkk jha cyI jiS jhj cyI jiP) sz)) 0 0 (va_A (qny a0 jha jhj jlc jld jkJ jiU jj1 jjT jaN ja4 jaP jkk jha cyI jiS jhj cyI jiP) sz) := by
  refine Met.ofW (cc := cX2_formsWithin) (maxL := 5) (ret := (some .int)) (by decide) rfl ?_
  intro p e s m args below meth c s₁ B hml hv
  obtain ⟨rfl, hsz, hP, hK, hD0, hNw⟩ := hv
  have hx := B.exec
  have hb := B.bytes
  have hr := B.returns
  have hts := atoms_spec (ws := wsX2_formsWithin) B.pre
  have hown : s.vm.findClass RX2 = some m.cls := findClass_of_methodNamed B.named
  have hlocks := B.notSynchronized
  subst hsz
  have hD := hD0.self (sz := s.heap.size)
  generalize hAe : va_A (qny a0 jha jhj jlc jld jkJ jiU jj1 jjT jaN ja4 jaP jkk jha cyI jiS jhj cyI jiP) s.heap.size = A at hD ⊢
  have hA : ∀ q : Nat, s.heap.size ≤ q → A q := fun q h => by rw [← hAe]; exact Or.inr h
  have hS : va_S A s.heap s.heap [] := va_S.rf
  have hP : va_P (dC, dI) vwCl (qny a0 jha jhj jlc jld jkJ jiU jj1 jjT jaN ja4 jaP jkk jha cyI jiS jhj cyI jiP) s.heap := hP
  have hl := lv_entry ([.ref a0, .int p1, .int p2]) (n := 5) (nbq rfl)
  rw [lg_entry_eq]
  generalize (lg_sl ([.ref a0, .int p1, .int p2]) ++ List.replicate (5 - (lg_sl ([.ref a0, .int p1, .int p2])).length) Slot.unset).toArray = ls at hl ⊢
  have hl : lv_has ls 5 [(0, .ref a0), (1, .int p1), (2, .int p2)] := hl
  have C0 : cfx p s m _ meth c cX2_formsWithin (some .int) wsX2_formsWithin RX2 5 A (dC, dI) (kT cyB cyI cyJ cyP) := ⟨hx, hb, hr, hts, hown, hlocks, hml, hA, hK, hNw⟩
  clear hAe
  obtain ⟨H, hH⟩ : ∃ H, H = s.heap := ⟨_, rfl⟩
  rw [← hH] at hP ⊢
  have hS : va_S A s.heap H [] := by rw [hH]; exact va_S.rf
  have hS := hS
  refine lv_iconst (v := 0) hx hb (qaa qcP 0 rfl) (by decide) ?_
  refine lv_istore_n (lv' := [(3, .int 0), (0, .ref a0), (1, .int p1), (2, .int p2)]) hx hb (qaa qcP 1 rfl) rfl hl (by decide) rfl (fun ls hl => ?_)
  refine lv_iconst (v := 0) hx hb (qaa qcP 2 rfl) (by decide) ?_
  refine lv_istore (lv' := [(4, .int 0), (3, .int 0), (0, .ref a0), (1, .int p1), (2, .int p2)]) hx hb (qaa qcP 3 rfl) hl (by decide) rfl (fun ls hl => ?_)
  obtain ⟨n9, hw⟩ := hw
  exact qaan dC dI cyB cyI cyJ cyP a0 jha jhj jlc jld jkJ jiU jj1 jjT ja4 jaP jkk jaN jiS jiP Q C0 n9 _ _ _ p1 p2 0 0 hP hD hS (lv_sub hl [2, 3, 4, 1, 0] rfl) hw
theorem q6l : ∀ w ∈ u_ws RX2 TX2 12, w ∈ wsX2_hopsBetween := uiM quC qLp (by decide +kernel)
theorem q4z : (.fieldLink RX2 36 "MarchHares$Down" "forms" "I" : Cond) ∈ wsX2_hopsBetween := quC 720 (by decide +kernel)
theorem qDZ : (.initialized RX10 : Cond) ∈ wsX2_hopsBetween := quC 2 (by decide +kernel)
theorem qAg : (.static yX10_holds : Cond) ∈ wsX2_hopsBetween := quC 2052 (by decide +kernel)
set_option maxHeartbeats 4000000 in
set_option maxRecDepth 100000 in
theorem qNn {p : Program} {l : Launch} {e : Env} {s : State} {m : MethodId} {args : Array Value} {below : List Frame} {meth : Method} {c : Code} {A : Nat → Prop} (dC : Nat → ClassId) (dI : Nat → Nat → Nat) (cyB cyI cyJ cyP : ClassId) (a0 jha jhj : Nat) (jlc jld jkJ jiU jj1 jjT ja4 jaP jkk : Value) (jaN : Int32) (jiS jiP : NI) (Q : Int32 → Prop) (K8 : Int32 → Int32 → Int32 → Int32 → Prop) (K34 : Int32 → Int32 → Int32 → Int32 → Int32 → Int32 → Prop) (hK8 : ∀ (H : Heap) (locs : List Loc) (ls : Array Slot) (l2 l3 l4 l5 : Int32), va_P (dC, dI) vwCl (qny a0 jha jhj jlc jld jkJ jiU jj1 jjT jaN ja4 jaP jkk jha cyI jiS jhj cyI jiP) H → va_D A (qny a0 jha jhj jlc jld jkJ jiU jj1 jjT jaN ja4 jaP jkk jha cyI jiS jhj cyI jiP) → va_S A s.heap H locs → lv_has ls 8 [(0, .ref a0), (2, .int l2), (3, .int l3), (4, .int l4), (5, .int l5)] → K8 l2 l3 l4 l5 → W p l e (headSpec wsX2_hopsBetween ({ frames := 3, cells := 0, slots := 0, locals := 78 })).room s m args below meth c H locs 0 0 (MQ below (va_Qi (fun (r : Int32) (_ : Unit) => Q r ) (cB (dC, dI) (kT cyB cyI cyJ cyP) A (fun u : Unit => ((qny a0 jha jhj jlc jld jkJ jiU jj1 jjT jaN ja4 jaP jkk jha cyI jiS jhj cyI jiP) : va_W))) A) args s 0 0 A) (F0 m 8 ls [])) (hK34 : ∀ (H : Heap) (locs : List Loc) (ls : Array Slot) (l2 l3 l4 l5 l6 l7 : Int32), va_P (dC, dI) vwCl (qny a0 jha jhj jlc jld jkJ jiU jj1 jjT jaN ja4 jaP jkk jha cyI jiS jhj cyI jiP) H → va_D A (qny a0 jha jhj jlc jld jkJ jiU jj1 jjT jaN ja4 jaP jkk jha cyI jiS jhj cyI jiP) → va_S A s.heap H locs → lv_has ls 8 [(0, .ref a0), (2, .int l2), (3, .int l3), (4, .int l4), (5, .int l5), (6, .int l6), (7, .int l7)] → K34 l2 l3 l4 l5 l6 l7 → W p l e (headSpec wsX2_hopsBetween ({ frames := 3, cells := 0, slots := 0, locals := 78 })).room s m args below meth c H locs 0 0 (MQ below (va_Qi (fun (r : Int32) (_ : Unit) => Q r ) (cB (dC, dI) (kT cyB cyI cyJ cyP) A (fun u : Unit => ((qny a0 jha jhj jlc jld jkJ jiU jj1 jjT jaN ja4 jaP jkk jha cyI jiS jhj cyI jiP) : va_W))) A) args s 0 0 A) (F0 m 34 ls [])) (C0 : cfx p s m args meth c cX2_hopsBetween (some .int) wsX2_hopsBetween RX2 8 A (dC, dI) (kT cyB cyI cyJ cyP)) : ∀ (H : Heap) (locs : List Loc) (ls : Array Slot) (l2 l3 l4 l5 l6 l7 : Int32), va_P (dC, dI) vwCl (qny a0 jha jhj jlc jld jkJ jiU jj1 jjT jaN ja4 jaP jkk jha cyI jiS jhj cyI jiP) H → va_D A (qny a0 jha jhj jlc jld jkJ jiU jj1 jjT jaN ja4 jaP jkk jha cyI jiS jhj cyI jiP) → va_S A s.heap H locs → lv_has ls 8 [(0, .ref a0), (2, .int l2), (3, .int l3), (4, .int l4), (5, .int l5), (6, .int l6), (7, .int l7)] → qDA jaN jiS jiP Q K8 K34 l2 l3 l4 l5 l6 l7 → W p l e (headSpec wsX2_hopsBetween ({ frames := 3, cells := 0, slots := 0, locals := 78 })).room s m args below meth c H locs 0 0 (MQ below (va_Qi (fun (r : Int32) (_ : Unit) => Q r ) (cB (dC, dI) (kT cyB cyI cyJ cyP) A (fun u : Unit => ((qny a0 jha jhj jlc jld jkJ jiU jj1 jjT jaN ja4 jaP jkk jha cyI jiS jhj cyI jiP) : va_W))) A) args s 0 0 A) (F0 m 65 ls []) := by
  obtain ⟨hx, hb, hr, hts, hown, hlocks, hml, hA, hK, hNw⟩ := id C0
  intro H locs ls l2 l3 l4 l5 l6 l7 hP hD hS hl hw
  obtain ⟨x11, ex11⟩ : ∃ y : Int32, y = l7 + 1 := ⟨_, rfl⟩
  have hw := hw x11 ex11
  refine lv_iinc (v := x11) (lv' := [(7, .int x11), (0, .ref a0), (2, .int l2), (3, .int l3), (4, .int l4), (5, .int l5), (6, .int l6)]) hx hb (qaa qjV 2 rfl) hl (k := 6) rfl (by rw [ex11]; rfl) (by decide) rfl (fun ls hl => ?_)
  refine lv_goto (tgt := 34) hx hb (qaa qjV 3 rfl) (by decide) ?_
  exact hK34 _ _ _ l2 l3 l4 l5 l6 x11 hP hD hS (lv_sub hl [1, 2, 3, 4, 5, 6, 0] rfl) hw
set_option maxHeartbeats 4000000 in
set_option maxRecDepth 100000 in
theorem q7d {p : Program} {l : Launch} {e : Env} {s : State} {m : MethodId} {args : Array Value} {below : List Frame} {meth : Method} {c : Code} {A : Nat → Prop} (dC : Nat → ClassId) (dI : Nat → Nat → Nat) (cyB cyI cyJ cyP : ClassId) (a0 jha jhj : Nat) (jlc jld jkJ jiU jj1 jjT ja4 jaP jkk : Value) (jaN : Int32) (jiS jiP : NI) (Q : Int32 → Prop) (K8 : Int32 → Int32 → Int32 → Int32 → Prop) (hK8 : ∀ (H : Heap) (locs : List Loc) (ls : Array Slot) (l2 l3 l4 l5 : Int32), va_P (dC, dI) vwCl (qny a0 jha jhj jlc jld jkJ jiU jj1 jjT jaN ja4 jaP jkk jha cyI jiS jhj cyI jiP) H → va_D A (qny a0 jha jhj jlc jld jkJ jiU jj1 jjT jaN ja4 jaP jkk jha cyI jiS jhj cyI jiP) → va_S A s.heap H locs → lv_has ls 8 [(0, .ref a0), (2, .int l2), (3, .int l3), (4, .int l4), (5, .int l5)] → K8 l2 l3 l4 l5 → W p l e (headSpec wsX2_hopsBetween ({ frames := 3, cells := 0, slots := 0, locals := 78 })).room s m args below meth c H locs 0 0 (MQ below (va_Qi (fun (r : Int32) (_ : Unit) => Q r ) (cB (dC, dI) (kT cyB cyI cyJ cyP) A (fun u : Unit => ((qny a0 jha jhj jlc jld jkJ jiU jj1 jjT jaN ja4 jaP jkk jha cyI jiS jhj cyI jiP) : va_W))) A) args s 0 0 A) (F0 m 8 ls [])) (C0 : cfx p s m args meth c cX2_hopsBetween (some .int) wsX2_hopsBetween RX2 8 A (dC, dI) (kT cyB cyI cyJ cyP)) : ∀ (n : Nat) (H : Heap) (locs : List Loc) (ls : Array Slot) (l2 l3 l4 l5 l6 l7 : Int32), va_P (dC, dI) vwCl (qny a0 jha jhj jlc jld jkJ jiU jj1 jjT jaN ja4 jaP jkk jha cyI jiS jhj cyI jiP) H → va_D A (qny a0 jha jhj jlc jld jkJ jiU jj1 jjT jaN ja4 jaP jkk jha cyI jiS jhj cyI jiP) → va_S A s.heap H locs → lv_has ls 8 [(0, .ref a0), (2, .int l2), (3, .int l3), (4, .int l4), (5, .int l5), (6, .int l6), (7, .int l7)] → qov jaN jiS jiP Q K8 n l2 l3 l4 l5 l6 l7 → W p l e (headSpec wsX2_hopsBetween ({ frames := 3, cells := 0, slots := 0, locals := 78 })).room s m args below meth c H locs 0 0 (MQ below (va_Qi (fun (r : Int32) (_ : Unit) => Q r ) (cB (dC, dI) (kT cyB cyI cyJ cyP) A (fun u : Unit => ((qny a0 jha jhj jlc jld jkJ jiU jj1 jjT jaN ja4 jaP jkk jha cyI jiS jhj cyI jiP) : va_W))) A) args s 0 0 A) (F0 m 34 ls []) := by
  obtain ⟨hx, hb, hr, hts, hown, hlocks, hml, hA, hK, hNw⟩ := id C0
  intro n
  induction n with
  | zero => intro H locs ls l2 l3 l4 l5 l6 l7 hP hD hS hl hw; exact False.elim hw
  | succ n ih =>
    intro H locs ls l2 l3 l4 l5 l6 l7 hP hD hS hl hw
    refine lv_iload hx hb (qaa qci 3 rfl) (lv_at hl 6 rfl) ?_
    refine lv_aload_n hx hb (qaa qci 4 rfl) rfl (lv_at hl 0 rfl) ?_
    refine va_get (D := (dC, dI)) (ci := 2) (v := .int jaN) (C := RX2) (T := TX2) (N := 12) hx hb hts q6l hown hK hP 0 rfl rfl 8 (by decide) (hts _ q4z) (fun _ h9 => h9) rfl (qaa qci 5 rfl) ?_
    refine lv_icmp_ge (tgt := 71) hx hb (qaa qci 6 rfl) (by decide) (fun c5 => ?_) (fun c5 => ?_)
    · have hw := hw.1 c5
      refine lv_iload hx hb (qaa qjV 4 rfl) (lv_at hl 5 rfl) ?_
      refine lv_istore (lv' := [(4, .int l6), (0, .ref a0), (2, .int l2), (3, .int l3), (5, .int l5), (6, .int l6), (7, .int l7)]) hx hb (qaa qjV 5 rfl) hl (by decide) rfl (fun ls hl => ?_)
      obtain ⟨x6, ex6⟩ : ∃ y : Int32, y = l5 + 1 := ⟨_, rfl⟩
      have hw := hw x6 ex6
      refine lv_iinc (v := x6) (lv' := [(5, .int x6), (4, .int l6), (0, .ref a0), (2, .int l2), (3, .int l3), (6, .int l6), (7, .int l7)]) hx hb (qaa qjV 6 rfl) hl (k := 4) rfl (by rw [ex6]; rfl) (by decide) rfl (fun ls hl => ?_)
      refine lv_goto (tgt := 8) hx hb (qaa qjV 7 rfl) (by decide) ?_
      exact hK8 _ _ _ l2 l3 l6 x6 hP hD hS (lv_sub hl [2, 3, 4, 1, 0] rfl) hw
    · have hw := hw.2 c5
      refine lv_iload hx hb (qaa qci 7 rfl) (lv_at hl 3 rfl) ?_
      refine lv_iload hx hb (qaa qci 8 rfl) (lv_at hl 6 rfl) ?_
      obtain ⟨hCc, hPc, hDc, hFc⟩ := qac (ws' := []) hP hD hS hA [] (by decide +kernel) rfl
      refine va_calli (va_runSN (As := [.int l4, .int l7]) (rest := []) ⟨hx, hb, hml, hown, hts⟩ (qnv l dC dI cyB cyI cyJ cyP H.size l4 l7 hw) ⟨(va_cnB 2 hts gX2_hopsBetween_X10_holds_n114 rfl rfl rfl (qbbT hNw) (hts _ qDZ) (by decide +kernel) ⟨nbq rfl, nbq rfl⟩), (hts _ qAg), trivial⟩ ⟨qab, qae hPc hK hDc hNw⟩ rfl rfl hl.1 rfl (lv_room (nbq rfl)) (qaa qci 9 rfl) ⟨nbq rfl, nbq rfl⟩) hS (fun q _ h => hFc q h) hFc (fun r7 u t H1 locs ht hvm hw hB hz1 hk1 hS => ?_)
      obtain ⟨hP1, hK1, hD1⟩ := hB
      rw [ht] at hP1
      obtain ⟨hP, hD⟩ := qah (wr := (qny a0 jha jhj jlc jld jkJ jiU jj1 jjT jaN ja4 jaP jkk jha cyI jiS jhj cyI jiP)) (w1 := []) (wn := (qny a0 jha jhj jlc jld jkJ jiU jj1 jjT jaN ja4 jaP jkk jha cyI jiS jhj cyI jiP)) hP hD [] [0, 1, 2] hCc rfl (by decide +kernel) (by decide +kernel) rfl hk1 hFc hP1 hD1
      generalize H1 = H at hP hS ⊢
      refine lv_if_eq (tgt := 65) hx hb (qaa qci 10 rfl) (by decide) (fun c8 => ?_) (fun c8 => ?_)
      · have hw := hw.1 c8
        exact qNn dC dI cyB cyI cyJ cyP a0 jha jhj jlc jld jkJ jiU jj1 jjT ja4 jaP jkk jaN jiS jiP Q K8 (qov jaN jiS jiP Q K8 n) hK8 ih C0 _ _ _ l2 l3 l4 l5 l6 l7 hP hD hS (lv_sub hl [0, 1, 2, 3, 4, 5, 6] rfl) hw
      · have hw := hw.2 c8
        refine lv_iload hx hb (qaa qci 11 rfl) (lv_at hl 5 rfl) ?_
        refine lv_aload_n hx hb (qaa qci 12 rfl) rfl (lv_at hl 0 rfl) ?_
        refine lv_iload hx hb (qaa qci 13 rfl) (lv_at hl 6 rfl) ?_
        refine lv_iload_n hx hb (qaa qci 14 rfl) rfl (lv_at hl 2 rfl) ?_
        obtain ⟨hCc, hPc, hDc, hFc⟩ := qac (ws' := (qny a0 jha jhj jlc jld jkJ jiU jj1 jjT jaN ja4 jaP jkk jha cyI jiS jhj cyI jiP)) hP hD hS hA [0, 1, 2] (by decide +kernel) rfl
        refine va_calli (va_runV (As := [.int l7, .int l3]) (rest := [.int l6]) ⟨hx, hb, hml, hown, hts⟩ (qJN l dC dI cyB cyI cyJ cyP a0 jha jhj H.size (jlc) (jld) (jkJ) (jiU) (jj1) (jjT) (ja4) (jaP) (jkk) jaN jiS jiP l7 l3 hw) (cwV 2 hts gX2_hopsBetween_X2_formsWithin rfl rfl rfl (by decide +kernel) ⟨nbq rfl, nbq rfl⟩) ⟨qab, va_recv (q := (RX2, TX2, 12)) hK hPc (ci := 2) (q0 := 0) rfl rfl, qae hPc hK hDc hNw⟩ rfl rfl hl.1 rfl (lv_room (nbq rfl)) (qaa qci 15 rfl) ⟨nbq rfl, nbq rfl⟩) hS (fun q _ h => hFc q h) hFc (fun r9 u t H1 locs ht hvm hw hB hz1 hk1 hS => ?_)
        obtain ⟨hP1, hK1, hD1⟩ := hB
        rw [ht] at hP1
        obtain ⟨hP, hD⟩ := qah (wr := []) (w1 := (qny a0 jha jhj jlc jld jkJ jiU jj1 jjT jaN ja4 jaP jkk jha cyI jiS jhj cyI jiP)) (wn := (qny a0 jha jhj jlc jld jkJ jiU jj1 jjT jaN ja4 jaP jkk jha cyI jiS jhj cyI jiP)) hP hD [0, 1, 2] [] hCc rfl (by decide +kernel) (by decide +kernel) rfl hk1 hFc hP1 hD1
        generalize H1 = H at hP hS ⊢
        refine lv_ior hx hb (qaa qjV 0 rfl) ?_
        refine lv_topi (fun x10 ex10 => ?_)
        have hw := hw x10 ex10
        refine lv_istore (lv' := [(6, .int x10), (0, .ref a0), (2, .int l2), (3, .int l3), (4, .int l4), (5, .int l5), (7, .int l7)]) hx hb (qaa qjV 1 rfl) hl (by decide) rfl (fun ls hl => ?_)
        exact qNn dC dI cyB cyI cyJ cyP a0 jha jhj jlc jld jkJ jiU jj1 jjT ja4 jaP jkk jaN jiS jiP Q K8 (qov jaN jiS jiP Q K8 n) hK8 ih C0 _ _ _ l2 l3 l4 l5 x10 l7 hP hD hS (lv_sub hl [1, 2, 3, 4, 5, 0, 6] rfl) hw
set_option maxHeartbeats 4000000 in
set_option maxRecDepth 100000 in
theorem qabV {p : Program} {l : Launch} {e : Env} {s : State} {m : MethodId} {args : Array Value} {below : List Frame} {meth : Method} {c : Code} {A : Nat → Prop} (dC : Nat → ClassId) (dI : Nat → Nat → Nat) (cyB cyI cyJ cyP : ClassId) (a0 jha jhj : Nat) (jlc jld jkJ jiU jj1 jjT ja4 jaP jkk : Value) (jaN : Int32) (jiS jiP : NI) (Q : Int32 → Prop) (C0 : cfx p s m args meth c cX2_hopsBetween (some .int) wsX2_hopsBetween RX2 8 A (dC, dI) (kT cyB cyI cyJ cyP)) : ∀ (n : Nat) (H : Heap) (locs : List Loc) (ls : Array Slot) (l2 l3 l4 l5 : Int32), va_P (dC, dI) vwCl (qny a0 jha jhj jlc jld jkJ jiU jj1 jjT jaN ja4 jaP jkk jha cyI jiS jhj cyI jiP) H → va_D A (qny a0 jha jhj jlc jld jkJ jiU jj1 jjT jaN ja4 jaP jkk jha cyI jiS jhj cyI jiP) → va_S A s.heap H locs → lv_has ls 8 [(0, .ref a0), (2, .int l2), (3, .int l3), (4, .int l4), (5, .int l5)] → qvR jaN jiS jiP Q n l2 l3 l4 l5 → W p l e (headSpec wsX2_hopsBetween ({ frames := 3, cells := 0, slots := 0, locals := 78 })).room s m args below meth c H locs 0 0 (MQ below (va_Qi (fun (r : Int32) (_ : Unit) => Q r ) (cB (dC, dI) (kT cyB cyI cyJ cyP) A (fun u : Unit => ((qny a0 jha jhj jlc jld jkJ jiU jj1 jjT jaN ja4 jaP jkk jha cyI jiS jhj cyI jiP) : va_W))) A) args s 0 0 A) (F0 m 8 ls []) := by
  obtain ⟨hx, hb, hr, hts, hown, hlocks, hml, hA, hK, hNw⟩ := id C0
  intro n
  induction n with
  | zero => intro H locs ls l2 l3 l4 l5 hP hD hS hl hw; exact False.elim hw
  | succ n ih =>
    intro H locs ls l2 l3 l4 l5 hP hD hS hl hw
    refine lv_iload hx hb (qaa qcW 6 rfl) (lv_at hl 4 rfl) ?_
    refine lv_bipush (v := 8) hx hb (qaa qcW 7 rfl) (by decide) ?_
    refine lv_icmp_ge (tgt := 81) hx hb (qaa qcW 8 rfl) (by decide) (fun c2 => ?_) (fun c2 => ?_)
    · have hw := hw.1 c2
      refine lv_iconst (v := (-1)) hx hb (qaa qjV 8 rfl) (by decide) ?_
      exact ((W.iret (v := (-1)) hx hb hr (fun t ht hW => ⟨⟨(-1), (), rfl, hw, by rw [ht]; exact hP, va_K.moved hW.alike hK, hD⟩, hS.F ht⟩) hS.2.2 (qaa qjV 9 rfl)))
    · have hw := hw.2 c2
      refine lv_iload hx hb (qaa qcW 9 rfl) (lv_at hl 3 rfl) ?_
      refine lv_iload_n hx hb (qaa qcW 10 rfl) rfl (lv_at hl 1 rfl) ?_
      obtain ⟨hCc, hPc, hDc, hFc⟩ := qac (ws' := []) hP hD hS hA [] (by decide +kernel) rfl
      refine va_calli (va_runSN (As := [.int l4, .int l2]) (rest := []) ⟨hx, hb, hml, hown, hts⟩ (qnv l dC dI cyB cyI cyJ cyP H.size l4 l2 hw) ⟨(va_cnB 2 hts gX2_hopsBetween_X10_holds_n114 rfl rfl rfl (qbbT hNw) (hts _ qDZ) (by decide +kernel) ⟨nbq rfl, nbq rfl⟩), (hts _ qAg), trivial⟩ ⟨qab, qae hPc hK hDc hNw⟩ rfl rfl hl.1 rfl (lv_room (nbq rfl)) (qaa qcW 11 rfl) ⟨nbq rfl, nbq rfl⟩) hS (fun q _ h => hFc q h) hFc (fun r3 u t H1 locs ht hvm hw hB hz1 hk1 hS => ?_)
      obtain ⟨hP1, hK1, hD1⟩ := hB
      rw [ht] at hP1
      obtain ⟨hP, hD⟩ := qah (wr := (qny a0 jha jhj jlc jld jkJ jiU jj1 jjT jaN ja4 jaP jkk jha cyI jiS jhj cyI jiP)) (w1 := []) (wn := (qny a0 jha jhj jlc jld jkJ jiU jj1 jjT jaN ja4 jaP jkk jha cyI jiS jhj cyI jiP)) hP hD [] [0, 1, 2] hCc rfl (by decide +kernel) (by decide +kernel) rfl hk1 hFc hP1 hD1
      generalize H1 = H at hP hS ⊢
      refine lv_if_eq (tgt := 27) hx hb (qaa qcW 12 rfl) (by decide) (fun c4 => ?_) (fun c4 => ?_)
      · have hw := hw.1 c4
        refine lv_iload hx hb (qaa qcW 15 rfl) (lv_at hl 3 rfl) ?_
        refine lv_istore (lv' := [(6, .int l4), (0, .ref a0), (2, .int l2), (3, .int l3), (4, .int l4), (5, .int l5)]) hx hb (qaa qci 0 rfl) hl (by decide) rfl (fun ls hl => ?_)
        refine lv_iconst (v := 0) hx hb (qaa qci 1 rfl) (by decide) ?_
        refine lv_istore (lv' := [(7, .int 0), (6, .int l4), (0, .ref a0), (2, .int l2), (3, .int l3), (4, .int l4), (5, .int l5)]) hx hb (qaa qci 2 rfl) hl (by decide) rfl (fun ls hl => ?_)
        obtain ⟨n9, hw⟩ := hw
        exact q7d dC dI cyB cyI cyJ cyP a0 jha jhj jlc jld jkJ jiU jj1 jjT ja4 jaP jkk jaN jiS jiP Q (qvR jaN jiS jiP Q n) ih C0 n9 _ _ _ l2 l3 l4 l5 l4 0 hP hD hS (lv_sub hl [2, 3, 4, 5, 6, 1, 0] rfl) hw
      · have hw := hw.2 c4
        refine lv_iload hx hb (qaa qcW 13 rfl) (lv_at hl 4 rfl) ?_
        exact ((W.iret (v := l5) hx hb hr (fun t ht hW => ⟨⟨l5, (), rfl, hw, by rw [ht]; exact hP, va_K.moved hW.alike hK, hD⟩, hS.F ht⟩) hS.2.2 (qaa qcW 14 rfl)))
set_option maxHeartbeats 4000000 in
set_option maxRecDepth 100000 in
theorem qanE (l : Launch) (dC : Nat → ClassId) (dI : Nat → Nat → Nat) (cyB cyI cyJ cyP : ClassId) (a0 jha jhj sz : Nat) (jlc jld jkJ jiU jj1 jjT ja4 jaP jkk : Value) (jaN : Int32) (jiS jiP : NI) (p1 p2 p3 : Int32) {Q : Int32 → Prop} (hw : qJ1 jaN jiS jiP p1 p2 p3 Q) : Met l yX2_hopsBetween wsX2_hopsBetween ({ frames := 3, cells := 0, slots := 0, locals := 78 }) (va_Pc [.ref a0, .int p1, .int p2, .int p3] (cPc (dC, dI) (kT cyB cyI cyJ cyP) (qny a0 jha jhj jlc jld jkJ jiU jj1 jjT jaN ja4 jaP jkk jha cyI jiS jhj cyI jiP) sz)) (va_Qi (fun (r : Int32) (_ : Unit) => Q r ) (cB (dC, dI) (kT cyB cyI cyJ cyP) (va_A (qny a0 jha jhj jlc jld jkJ jiU jj1 jjT jaN ja4 jaP jkk jha cyI jiS jhj cyI jiP) sz) (fun u : Unit => ((qny a0 jha jhj jlc jld jkJ jiU jj1 jjT jaN ja4 jaP jkk jha cyI jiS jhj cyI jiP) : va_W))) (va_A (qny a0 jha jhj jlc jld jkJ jiU jj1 jjT jaN ja4 jaP jkk jha cyI jiS jhj cyI jiP) sz)) 0 0 (va_A (qny a0 jha jhj jlc jld jkJ jiU jj1 jjT jaN ja4 jaP jkk jha cyI jiS jhj cyI jiP) sz) := by
  refine Met.ofW (cc := cX2_hopsBetween) (maxL := 8) (ret := (some .int)) (by decide) rfl ?_
  intro p e s m args below meth c s₁ B hml hv
  obtain ⟨rfl, hsz, hP, hK, hD0, hNw⟩ := hv
  have hx := B.exec
  have hb := B.bytes
  have hr := B.returns
  have hts := atoms_spec (ws := wsX2_hopsBetween) B.pre
  have hown : s.vm.findClass RX2 = some m.cls := findClass_of_methodNamed B.named
  have hlocks := B.notSynchronized
  subst hsz
  have hD := hD0.self (sz := s.heap.size)
  generalize hAe : va_A (qny a0 jha jhj jlc jld jkJ jiU jj1 jjT jaN ja4 jaP jkk jha cyI jiS jhj cyI jiP) s.heap.size = A at hD ⊢
  have hA : ∀ q : Nat, s.heap.size ≤ q → A q := fun q h => by rw [← hAe]; exact Or.inr h
  have hS : va_S A s.heap s.heap [] := va_S.rf
  have hP : va_P (dC, dI) vwCl (qny a0 jha jhj jlc jld jkJ jiU jj1 jjT jaN ja4 jaP jkk jha cyI jiS jhj cyI jiP) s.heap := hP
  have hl := lv_entry ([.ref a0, .int p1, .int p2, .int p3]) (n := 8) (nbq rfl)
  rw [lg_entry_eq]
  generalize (lg_sl ([.ref a0, .int p1, .int p2, .int p3]) ++ List.replicate (8 - (lg_sl ([.ref a0, .int p1, .int p2, .int p3])).length) Slot.unset).toArray = ls at hl ⊢
  have hl : lv_has ls 8 [(0, .ref a0), (1, .int p1), (2, .int p2), (3, .int p3)] := hl
  have C0 : cfx p s m _ meth c cX2_hopsBetween (some .int) wsX2_hopsBetween RX2 8 A (dC, dI) (kT cyB cyI cyJ cyP) := ⟨hx, hb, hr, hts, hown, hlocks, hml, hA, hK, hNw⟩
  clear hAe
  obtain ⟨H, hH⟩ : ∃ H, H = s.heap := ⟨_, rfl⟩
  rw [← hH] at hP ⊢
  have hS : va_S A s.heap H [] := by rw [hH]; exact va_S.rf
  have hS := hS
  refine lv_iconst (v := 1) hx hb (qaa qcW 0 rfl) (by decide) ?_
  refine lv_iload_n hx hb (qaa qcW 1 rfl) rfl (lv_at hl 1 rfl) ?_
  refine lv_ishl hx hb (qaa qcW 2 rfl) ?_
  refine lv_topi (fun x1 ex1 => ?_)
  have hw := hw x1 ex1
  refine lv_istore (lv' := [(4, .int x1), (0, .ref a0), (1, .int p1), (2, .int p2), (3, .int p3)]) hx hb (qaa qcW 3 rfl) hl (by decide) rfl (fun ls hl => ?_)
  refine lv_iconst (v := 0) hx hb (qaa qcW 4 rfl) (by decide) ?_
  refine lv_istore (lv' := [(5, .int 0), (4, .int x1), (0, .ref a0), (1, .int p1), (2, .int p2), (3, .int p3)]) hx hb (qaa qcW 5 rfl) hl (by decide) rfl (fun ls hl => ?_)
  obtain ⟨n9, hw⟩ := hw
  exact qabV dC dI cyB cyI cyJ cyP a0 jha jhj jlc jld jkJ jiU jj1 jjT ja4 jaP jkk jaN jiS jiP Q C0 n9 _ _ _ p2 p3 x1 0 hP hD hS (lv_sub hl [2, 4, 5, 1, 0] rfl) hw
theorem qIX : ∀ w ∈ u_ws RX10 TX10 19, w ∈ wsX10_hops := uiM qti qyN (by decide +kernel)
theorem qaBS : (.fieldLink RX10 19 "MarchHares" "ground" "LMarchHares$Down;" : Cond) ∈ wsX10_hops := qti 20 (by decide +kernel)
theorem qOL : (.fieldLink RX10 58 "MarchHares" "now" "LMarchHares$Days;" : Cond) ∈ wsX10_hops := qti 79 (by decide +kernel)
set_option maxHeartbeats 4000000 in
set_option maxRecDepth 100000 in
theorem qaYu (l : Launch) (dC : Nat → ClassId) (dI : Nat → Nat → Nat) (cyB cyI cyJ cyP : ClassId) (a0 jaR jaT jbb jb6 jcc jcl jbW jbL jbs jbt sz : Nat) (jaK ja1 jcp jbc jbV ja3 jbH jbO jaq jac jbI jbl jbn jba jaa jdD jbo jbp jbk jbj jbf jbq jbi jcd jbr : Value) (jbE jbm : Int32) (jbQ : NI) (jdh : Int32) (jdN jdi jci jcj : NI) (jdu : Int32) (jfl jfM : NI) (p1 p2 : Int32) {E : String → Int32 → NI → NI → Prop} {Q : Int32 → Int32 → NI → NI → Prop} (hw : q8E jbE jbm jbQ jdh jdN jdi jci jcj jdu jfl jfM p1 p2 E Q) : vx_Met l yX10_hops wsX10_hops ({ frames := 7, cells := 2, slots := 12, locals := 141 }) (va_Pc [.ref a0, .int p1, .int p2] (cPx l (dC, dI) (kT cyB cyI cyJ cyP) (qAV a0 jaK jaR ja1 jcp jbc jbV ja3 jbH jaT jbO jaq jac jbI jbl jbn jba jaa jdu jdD jaR jbs jbt jbo jbp jbk jbj jbf jbq jbE jbm jbi jcd jaT jbb jbr jaR jb6 jbb cyI jbQ jb6 jbW jbL jcl jcc jdh jcc cyI jfl jcl cyI jfM jbW cyI jdN jbL cyI jdi jbs cyI jci jbt cyI jcj) sz)) (va_Qi (fun (r : Int32) (u : Int32 × NI × NI) => Q r u.1 u.2.1 u.2.2) (cB (dC, dI) (kT cyB cyI cyJ cyP) (va_A (qAV a0 jaK jaR ja1 jcp jbc jbV ja3 jbH jaT jbO jaq jac jbI jbl jbn jba jaa jdu jdD jaR jbs jbt jbo jbp jbk jbj jbf jbq jbE jbm jbi jcd jaT jbb jbr jaR jb6 jbb cyI jbQ jb6 jbW jbL jcl jcc jdh jcc cyI jfl jcl cyI jfM jbW cyI jdN jbL cyI jdi jbs cyI jci jbt cyI jcj) sz) (fun u : Int32 × NI × NI => ((qAV a0 jaK jaR ja1 jcp jbc jbV ja3 jbH jaT jbO jaq jac jbI jbl jbn jba jaa u.1 jdD jaR jbs jbt jbo jbp jbk jbj jbf jbq jbE jbm jbi jcd jaT jbb jbr jaR jb6 jbb cyI jbQ jb6 jbW jbL jcl jcc jdh jcc cyI u.2.1 jcl cyI u.2.2 jbW cyI jdN jbL cyI jdi jbs cyI jci jbt cyI jcj) : va_W))) (va_A (qAV a0 jaK jaR ja1 jcp jbc jbV ja3 jbH jaT jbO jaq jac jbI jbl jbn jba jaa jdu jdD jaR jbs jbt jbo jbp jbk jbj jbf jbq jbE jbm jbi jcd jaT jbb jbr jaR jb6 jbb cyI jbQ jb6 jbW jbL jcl jcc jdh jcc cyI jfl jcl cyI jfM jbW cyI jdN jbL cyI jdi jbs cyI jci jbt cyI jcj) sz)) (vx_X (fun _ => True) (fun (en : String) (u : Int32 × NI × NI) (t : State) => E en u.1 u.2.1 u.2.2 ∧ cB (dC, dI) (kT cyB cyI cyJ cyP) (va_A (qAV a0 jaK jaR ja1 jcp jbc jbV ja3 jbH jaT jbO jaq jac jbI jbl jbn jba jaa jdu jdD jaR jbs jbt jbo jbp jbk jbj jbf jbq jbE jbm jbi jcd jaT jbb jbr jaR jb6 jbb cyI jbQ jb6 jbW jbL jcl jcc jdh jcc cyI jfl jcl cyI jfM jbW cyI jdN jbL cyI jdi jbs cyI jci jbt cyI jcj) sz) (fun u : Int32 × NI × NI => ((qAV a0 jaK jaR ja1 jcp jbc jbV ja3 jbH jaT jbO jaq jac jbI jbl jbn jba jaa u.1 jdD jaR jbs jbt jbo jbp jbk jbj jbf jbq jbE jbm jbi jcd jaT jbb jbr jaR jb6 jbb cyI jbQ jb6 jbW jbL jcl jcc jdh jcc cyI u.2.1 jcl cyI u.2.2 jbW cyI jdN jbL cyI jdi jbs cyI jci jbt cyI jcj) : va_W)) u t) (va_A (qAV a0 jaK jaR ja1 jcp jbc jbV ja3 jbH jaT jbO jaq jac jbI jbl jbn jba jaa jdu jdD jaR jbs jbt jbo jbp jbk jbj jbf jbq jbE jbm jbi jcd jaT jbb jbr jaR jb6 jbb cyI jbQ jb6 jbW jbL jcl jcc jdh jcc cyI jfl jcl cyI jfM jbW cyI jdN jbL cyI jdi jbs cyI jci jbt cyI jcj) sz)) 2 12 (va_A (qAV a0 jaK jaR ja1 jcp jbc jbV ja3 jbH jaT jbO jaq jac jbI jbl jbn jba jaa jdu jdD jaR jbs jbt jbo jbp jbk jbj jbf jbq jbE jbm jbi jcd jaT jbb jbr jaR jb6 jbb cyI jbQ jb6 jbW jbL jcl jcc jdh jcc cyI jfl jcl cyI jfM jbW cyI jdN jbL cyI jdi jbs cyI jci jbt cyI jcj) sz) := by
  refine vx_ofW (cc := cX10_hops) (maxL := 3) (ret := (some .int)) (by decide) rfl ?_
  intro p e s m args below meth c s₁ B hml hnt hv
  obtain ⟨rfl, hsz, hP, hK, hD0, hNw, hXl, hXu, hXn, hXt⟩ := hv
  have hx := B.exec
  have hb := B.bytes
  have hr := B.returns
  have hts := atoms_spec (ws := wsX10_hops) B.pre
  have hown : s.vm.findClass RX10 = some m.cls := findClass_of_methodNamed B.named
  have hlocks := B.notSynchronized
  subst hsz
  have hD := hD0.self (sz := s.heap.size)
  generalize hAe : va_A (qAV a0 jaK jaR ja1 jcp jbc jbV ja3 jbH jaT jbO jaq jac jbI jbl jbn jba jaa jdu jdD jaR jbs jbt jbo jbp jbk jbj jbf jbq jbE jbm jbi jcd jaT jbb jbr jaR jb6 jbb cyI jbQ jb6 jbW jbL jcl jcc jdh jcc cyI jfl jcl cyI jfM jbW cyI jdN jbL cyI jdi jbs cyI jci jbt cyI jcj) s.heap.size = A at hD hXu hXn ⊢
  have hA : ∀ q : Nat, s.heap.size ≤ q → A q := fun q h => by rw [← hAe]; exact Or.inr h
  have hS : va_S A s.heap s.heap [] := va_S.rf
  have hP : va_P (dC, dI) vwCl (qAV a0 jaK jaR ja1 jcp jbc jbV ja3 jbH jaT jbO jaq jac jbI jbl jbn jba jaa jdu jdD jaR jbs jbt jbo jbp jbk jbj jbf jbq jbE jbm jbi jcd jaT jbb jbr jaR jb6 jbb cyI jbQ jb6 jbW jbL jcl jcc jdh jcc cyI jfl jcl cyI jfM jbW cyI jdN jbL cyI jdi jbs cyI jci jbt cyI jcj) s.heap := hP
  have hl := lv_entry ([.ref a0, .int p1, .int p2]) (n := 3) (nbq rfl)
  rw [lg_entry_eq]
  generalize (lg_sl ([.ref a0, .int p1, .int p2]) ++ List.replicate (3 - (lg_sl ([.ref a0, .int p1, .int p2])).length) Slot.unset).toArray = ls at hl ⊢
  have hl : lv_has ls 3 [(0, .ref a0), (1, .int p1), (2, .int p2)] := hl
  have hY : cfY l s A := ⟨hXl, hXu, hXn, hXt⟩
  have hXs : cfX l s c A := ⟨hnt, hY⟩
  have C0 : cfx p s m _ meth c cX10_hops (some .int) wsX10_hops RX10 3 A (dC, dI) (kT cyB cyI cyJ cyP) ∧ cfX l s c A := ⟨⟨hx, hb, hr, hts, hown, hlocks, hml, hA, hK, hNw⟩, hXs⟩
  clear hAe
  obtain ⟨H, hH⟩ : ∃ H, H = s.heap := ⟨_, rfl⟩
  rw [← hH] at hP ⊢
  have hS : va_S A s.heap H [] := by rw [hH]; exact va_S.rf
  have hS := hS
  refine lv_aload_n hx hb (qaa qlH 0 rfl) rfl (lv_at hl 0 rfl) ?_
  refine lv_iload_n hx hb (qaa qlH 1 rfl) rfl (lv_at hl 1 rfl) ?_
  obtain ⟨hCc, hPc, hDc, hFc⟩ := qac (ws' := (qama a0 jaK jaR ja1 jcp jbc jbV ja3 jbH jaT jbO jaq jac jbI jbl jbn jba jaa jdu jdD jaR jbs jbt jbo jbp jbk jbj jbf jbq jbE jbm jbi jcd)) hP hD hS hA [0, 1] (by decide +kernel) rfl
  refine vx_callv (vx_runV (As := [.int p1]) (rest := []) ⟨hx, hb, hml, hown, hts⟩ (qqu l dC dI cyB cyI cyJ cyP a0 jaR H.size (jaK) (ja1) (jcp) (jbc) (jbV) (ja3) (jbH) (.ref jaT) (jbO) (jaq) (jac) (jbI) (jbl) (jbn) (jba) (jaa) (jdD) (.ref jbs) (.ref jbt) (jbo) (jbp) (jbk) (jbj) (jbf) (jbq) (.int jbE) (jbi) (jcd) jbm jdu p1 hw) (cwV 1 hts gX10_hops_X10_needHare rfl rfl rfl (by decide +kernel) ⟨nbq rfl, nbq rfl⟩) ⟨qav, va_recv (q := (RX10, TX10, 19)) hK hPc (ci := 10) (q0 := 0) rfl rfl, qbl hPc hK hDc hNw hY hS hFc⟩ rfl rfl hl.1 rfl (lv_room (nbq rfl)) (qaa qlH 2 rfl) ⟨nbq rfl, nbq rfl⟩) hS (fun q _ h => hFc q h) hFc (fun q _ h => hFc q h) (fun en ce q9 u t H1 locs ht hvm hpx hB hz1 hk1 hS hc9 hv9 hcl9 => ?_) (fun u t H1 locs ht hvm hw hB hz1 hk1 hS => ?_)
  · obtain ⟨x1, rfl⟩ : ∃ z, z = u := ⟨_, rfl⟩
    obtain ⟨hw, hP1, hK1, hD1⟩ := hB
    rw [ht] at hP1
    obtain ⟨hP, hD⟩ := qad (wr := (qaNA jaT jbb jbr jaR jb6 jbb cyI jbQ jb6 jbW jbL jcl jcc jdh jcc cyI jfl jcl cyI jfM jbW cyI jdN jbL cyI jdi jbs cyI jci jbt cyI jcj)) (w1 := (qama a0 jaK jaR ja1 jcp jbc jbV ja3 jbH jaT jbO jaq jac jbI jbl jbn jba jaa x1 jdD jaR jbs jbt jbo jbp jbk jbj jbf jbq jbE jbm jbi jcd)) (wn := (qAV a0 jaK jaR ja1 jcp jbc jbV ja3 jbH jaT jbO jaq jac jbI jbl jbn jba jaa x1 jdD jaR jbs jbt jbo jbp jbk jbj jbf jbq jbE jbm jbi jcd jaT jbb jbr jaR jb6 jbb cyI jbQ jb6 jbW jbL jcl jcc jdh jcc cyI jfl jcl cyI jfM jbW cyI jdN jbL cyI jdi jbs cyI jci jbt cyI jcj)) hP hD [0, 1] [2, 3, 4, 5, 6, 7, 8, 9, 10] [9, 10, 0, 1, 2, 3, 4, 5, 6, 7, 8] hCc rfl (by decide +kernel) (by decide +kernel) (by decide +kernel) rfl hk1 hFc hP1 hD1
    generalize H1 = H at hP hS hc9 ⊢
    exact vx_out (fun x hx9 => (hXs.1 x hx9).elim) hlocks hc9 hv9 hcl9 (fun t2 ht2 hal2 => ⟨(x1, jfl, jfM), trivial, ⟨hw, by rw [ht2]; exact hP, va_K.moved hal2 hK, hD⟩, hS.F ht2⟩) hS.2.2 (nbq rfl) (nbq rfl)
  obtain ⟨x1, rfl⟩ : ∃ z, z = u := ⟨_, rfl⟩
  obtain ⟨hP1, hK1, hD1⟩ := hB
  rw [ht] at hP1
  obtain ⟨hP, hD⟩ := qad (wr := (qaNA jaT jbb jbr jaR jb6 jbb cyI jbQ jb6 jbW jbL jcl jcc jdh jcc cyI jfl jcl cyI jfM jbW cyI jdN jbL cyI jdi jbs cyI jci jbt cyI jcj)) (w1 := (qama a0 jaK jaR ja1 jcp jbc jbV ja3 jbH jaT jbO jaq jac jbI jbl jbn jba jaa x1 jdD jaR jbs jbt jbo jbp jbk jbj jbf jbq jbE jbm jbi jcd)) (wn := (qAV a0 jaK jaR ja1 jcp jbc jbV ja3 jbH jaT jbO jaq jac jbI jbl jbn jba jaa x1 jdD jaR jbs jbt jbo jbp jbk jbj jbf jbq jbE jbm jbi jcd jaT jbb jbr jaR jb6 jbb cyI jbQ jb6 jbW jbL jcl jcc jdh jcc cyI jfl jcl cyI jfM jbW cyI jdN jbL cyI jdi jbs cyI jci jbt cyI jcj)) hP hD [0, 1] [2, 3, 4, 5, 6, 7, 8, 9, 10] [9, 10, 0, 1, 2, 3, 4, 5, 6, 7, 8] hCc rfl (by decide +kernel) (by decide +kernel) (by decide +kernel) rfl hk1 hFc hP1 hD1
  generalize H1 = H at hP hS ⊢
  refine lv_aload_n hx hb (qaa qlH 3 rfl) rfl (lv_at hl 0 rfl) ?_
  refine lv_iload_n hx hb (qaa qlH 4 rfl) rfl (lv_at hl 2 rfl) ?_
  obtain ⟨hCc, hPc, hDc, hFc⟩ := qac (ws' := (qama a0 jaK jaR ja1 jcp jbc jbV ja3 jbH jaT jbO jaq jac jbI jbl jbn jba jaa x1 jdD jaR jbs jbt jbo jbp jbk jbj jbf jbq jbE jbm jbi jcd)) hP hD hS hA [0, 1] (by decide +kernel) rfl
  refine vx_callv (vx_runV (As := [.int p2]) (rest := []) ⟨hx, hb, hml, hown, hts⟩ (qyj l dC dI cyB cyI cyJ cyP a0 jaR H.size (jaK) (ja1) (jcp) (jbc) (jbV) (ja3) (jbH) (.ref jaT) (jbO) (jaq) (jac) (jbI) (jbl) (jbn) (jba) (jaa) (jdD) (.ref jbs) (.ref jbt) (jbo) (jbp) (jbk) (jbj) (jbf) (jbq) (.int jbm) (jbi) (jcd) jbE x1 p2 hw) (cwV 1 hts gX10_hops_X10_needForm rfl rfl rfl (by decide +kernel) ⟨nbq rfl, nbq rfl⟩) ⟨qav, va_recv (q := (RX10, TX10, 19)) hK hPc (ci := 10) (q0 := 0) rfl rfl, qbl hPc hK hDc hNw hY hS hFc⟩ rfl rfl hl.1 rfl (lv_room (nbq rfl)) (qaa qlH 5 rfl) ⟨nbq rfl, nbq rfl⟩) hS (fun q _ h => hFc q h) hFc (fun q _ h => hFc q h) (fun en ce q9 u t H1 locs ht hvm hpx hB hz1 hk1 hS hc9 hv9 hcl9 => ?_) (fun u t H1 locs ht hvm hw hB hz1 hk1 hS => ?_)
  · obtain ⟨x2, rfl⟩ : ∃ z, z = u := ⟨_, rfl⟩
    obtain ⟨hw, hP1, hK1, hD1⟩ := hB
    rw [ht] at hP1
    obtain ⟨hP, hD⟩ := qad (wr := (qaNA jaT jbb jbr jaR jb6 jbb cyI jbQ jb6 jbW jbL jcl jcc jdh jcc cyI jfl jcl cyI jfM jbW cyI jdN jbL cyI jdi jbs cyI jci jbt cyI jcj)) (w1 := (qama a0 jaK jaR ja1 jcp jbc jbV ja3 jbH jaT jbO jaq jac jbI jbl jbn jba jaa x2 jdD jaR jbs jbt jbo jbp jbk jbj jbf jbq jbE jbm jbi jcd)) (wn := (qAV a0 jaK jaR ja1 jcp jbc jbV ja3 jbH jaT jbO jaq jac jbI jbl jbn jba jaa x2 jdD jaR jbs jbt jbo jbp jbk jbj jbf jbq jbE jbm jbi jcd jaT jbb jbr jaR jb6 jbb cyI jbQ jb6 jbW jbL jcl jcc jdh jcc cyI jfl jcl cyI jfM jbW cyI jdN jbL cyI jdi jbs cyI jci jbt cyI jcj)) hP hD [0, 1] [2, 3, 4, 5, 6, 7, 8, 9, 10] [9, 10, 0, 1, 2, 3, 4, 5, 6, 7, 8] hCc rfl (by decide +kernel) (by decide +kernel) (by decide +kernel) rfl hk1 hFc hP1 hD1
    generalize H1 = H at hP hS hc9 ⊢
    exact vx_out (fun x hx9 => (hXs.1 x hx9).elim) hlocks hc9 hv9 hcl9 (fun t2 ht2 hal2 => ⟨(x2, jfl, jfM), trivial, ⟨hw, by rw [ht2]; exact hP, va_K.moved hal2 hK, hD⟩, hS.F ht2⟩) hS.2.2 (nbq rfl) (nbq rfl)
  obtain ⟨x2, rfl⟩ : ∃ z, z = u := ⟨_, rfl⟩
  obtain ⟨hP1, hK1, hD1⟩ := hB
  rw [ht] at hP1
  obtain ⟨hP, hD⟩ := qad (wr := (qaNA jaT jbb jbr jaR jb6 jbb cyI jbQ jb6 jbW jbL jcl jcc jdh jcc cyI jfl jcl cyI jfM jbW cyI jdN jbL cyI jdi jbs cyI jci jbt cyI jcj)) (w1 := (qama a0 jaK jaR ja1 jcp jbc jbV ja3 jbH jaT jbO jaq jac jbI jbl jbn jba jaa x2 jdD jaR jbs jbt jbo jbp jbk jbj jbf jbq jbE jbm jbi jcd)) (wn := (qAV a0 jaK jaR ja1 jcp jbc jbV ja3 jbH jaT jbO jaq jac jbI jbl jbn jba jaa x2 jdD jaR jbs jbt jbo jbp jbk jbj jbf jbq jbE jbm jbi jcd jaT jbb jbr jaR jb6 jbb cyI jbQ jb6 jbW jbL jcl jcc jdh jcc cyI jfl jcl cyI jfM jbW cyI jdN jbL cyI jdi jbs cyI jci jbt cyI jcj)) hP hD [0, 1] [2, 3, 4, 5, 6, 7, 8, 9, 10] [9, 10, 0, 1, 2, 3, 4, 5, 6, 7, 8] hCc rfl (by decide +kernel) (by decide +kernel) (by decide +kernel) rfl hk1 hFc hP1 hD1
  generalize H1 = H at hP hS ⊢
  refine lv_aload_n hx hb (qaa qlH 6 rfl) rfl (lv_at hl 0 rfl) ?_
  refine va_get (D := (dC, dI)) (ci := 10) (v := .ref jaT) (C := RX10) (T := TX10) (N := 19) hx hb hts qIX hown hK hP 0 rfl rfl 8 (by decide) (hts _ qOL) (fun _ h9 => h9) rfl (qaa qlH 7 rfl) ?_
  refine lv_iload_n hx hb (qaa qlH 8 rfl) rfl (lv_at hl 1 rfl) ?_
  obtain ⟨hCc, hPc, hDc, hFc⟩ := qac (ws' := (qDk jaT jbb jbr jaR jb6 jbb cyI jbQ)) hP hD hS hA [2, 3] (by decide +kernel) rfl
  refine va_calli (va_runV (As := [.int p1]) (rest := []) ⟨hx, hb, hml, hown, hts⟩ (qia l dC dI cyB cyI cyJ cyP jaT jbb H.size (jbr) (.ref jaR) (.ref jb6) jbQ p1 hw) (cwV 1 hts gX10_hops_X1_isCaught rfl rfl rfl (by decide +kernel) ⟨nbq rfl, nbq rfl⟩) ⟨qab, va_recv (q := (RX1, TX1, 4)) hK hPc (ci := 1) (q0 := 0) rfl rfl, qae hPc hK hDc hNw⟩ rfl rfl hl.1 rfl (lv_room (nbq rfl)) (qaa qlH 9 rfl) ⟨nbq rfl, nbq rfl⟩) hS (fun q _ h => hFc q h) hFc (fun r3 u t H1 locs ht hvm hw hB hz1 hk1 hS => ?_)
  obtain ⟨hP1, hK1, hD1⟩ := hB
  rw [ht] at hP1
  obtain ⟨hP, hD⟩ := qad (wr := (qa7A a0 jaK jaR ja1 jcp jbc jbV ja3 jbH jaT jbO jaq jac jbI jbl jbn jba jaa x2 jdD jaR jbs jbt jbo jbp jbk jbj jbf jbq jbE jbm jbi jcd jb6 jbW jbL jcl jcc jdh jcc cyI jfl jcl cyI jfM jbW cyI jdN jbL cyI jdi jbs cyI jci jbt cyI jcj)) (w1 := (qDk jaT jbb jbr jaR jb6 jbb cyI jbQ)) (wn := (qAV a0 jaK jaR ja1 jcp jbc jbV ja3 jbH jaT jbO jaq jac jbI jbl jbn jba jaa x2 jdD jaR jbs jbt jbo jbp jbk jbj jbf jbq jbE jbm jbi jcd jaT jbb jbr jaR jb6 jbb cyI jbQ jb6 jbW jbL jcl jcc jdh jcc cyI jfl jcl cyI jfM jbW cyI jdN jbL cyI jdi jbs cyI jci jbt cyI jcj)) hP hD [2, 3] [0, 1, 4, 5, 6, 7, 8, 9, 10] [0, 1, 9, 10, 2, 3, 4, 5, 6, 7, 8] hCc rfl (by decide +kernel) (by decide +kernel) (by decide +kernel) rfl hk1 hFc hP1 hD1
  generalize H1 = H at hP hS ⊢
  refine lv_if_eq (tgt := 23) hx hb (qaa qlH 10 rfl) (by decide) (fun c4 => ?_) (fun c4 => ?_)
  · have hw := hw.1 c4
    refine lv_aload_n hx hb (qaa qlH 13 rfl) rfl (lv_at hl 0 rfl) ?_
    refine va_get (D := (dC, dI)) (ci := 10) (v := .ref jaR) (C := RX10) (T := TX10) (N := 19) hx hb hts qIX hown hK hP 0 rfl rfl 1 (by decide) (hts _ qaBS) (fun _ h9 => h9) rfl (qaa qlH 14 rfl) ?_
    refine lv_aload_n hx hb (qaa qlH 15 rfl) rfl (lv_at hl 0 rfl) ?_
    refine va_get (D := (dC, dI)) (ci := 10) (v := .ref jaT) (C := RX10) (T := TX10) (N := 19) hx hb hts qIX hown hK hP 0 rfl rfl 8 (by decide) (hts _ qOL) (fun _ h9 => h9) rfl (qaa qrN 0 rfl) ?_
    refine lv_iload_n hx hb (qaa qrN 1 rfl) rfl (lv_at hl 1 rfl) ?_
    obtain ⟨hCc, hPc, hDc, hFc⟩ := qac (ws' := (qDk jaT jbb jbr jaR jb6 jbb cyI jbQ)) hP hD hS hA [2, 3] (by decide +kernel) rfl
    refine va_calli (va_runV (As := [.int p1]) (rest := [.ref jaR]) ⟨hx, hb, hml, hown, hts⟩ (qvw l dC dI cyB cyI cyJ cyP jaT jbb H.size (jbr) (.ref jaR) (.ref jb6) jbQ p1 hw) (cwV 1 hts gX10_hops_X1_sits rfl rfl rfl (by decide +kernel) ⟨nbq rfl, nbq rfl⟩) ⟨qab, va_recv (q := (RX1, TX1, 4)) hK hPc (ci := 1) (q0 := 0) rfl rfl, qae hPc hK hDc hNw⟩ rfl rfl hl.1 rfl (lv_room (nbq rfl)) (qaa qrN 2 rfl) ⟨nbq rfl, nbq rfl⟩) hS (fun q _ h => hFc q h) hFc (fun r5 u t H1 locs ht hvm hw hB hz1 hk1 hS => ?_)
    obtain ⟨hP1, hK1, hD1⟩ := hB
    rw [ht] at hP1
    obtain ⟨hP, hD⟩ := qad (wr := (qa7A a0 jaK jaR ja1 jcp jbc jbV ja3 jbH jaT jbO jaq jac jbI jbl jbn jba jaa x2 jdD jaR jbs jbt jbo jbp jbk jbj jbf jbq jbE jbm jbi jcd jb6 jbW jbL jcl jcc jdh jcc cyI jfl jcl cyI jfM jbW cyI jdN jbL cyI jdi jbs cyI jci jbt cyI jcj)) (w1 := (qDk jaT jbb jbr jaR jb6 jbb cyI jbQ)) (wn := (qAV a0 jaK jaR ja1 jcp jbc jbV ja3 jbH jaT jbO jaq jac jbI jbl jbn jba jaa x2 jdD jaR jbs jbt jbo jbp jbk jbj jbf jbq jbE jbm jbi jcd jaT jbb jbr jaR jb6 jbb cyI jbQ jb6 jbW jbL jcl jcc jdh jcc cyI jfl jcl cyI jfM jbW cyI jdN jbL cyI jdi jbs cyI jci jbt cyI jcj)) hP hD [2, 3] [0, 1, 4, 5, 6, 7, 8, 9, 10] [0, 1, 9, 10, 2, 3, 4, 5, 6, 7, 8] hCc rfl (by decide +kernel) (by decide +kernel) (by decide +kernel) rfl hk1 hFc hP1 hD1
    generalize H1 = H at hP hS ⊢
    refine lv_iload_n hx hb (qaa qrN 3 rfl) rfl (lv_at hl 2 rfl) ?_
    refine lv_aload_n hx hb (qaa qrN 4 rfl) rfl (lv_at hl 0 rfl) ?_
    refine va_get (D := (dC, dI)) (ci := 10) (v := .ref jaT) (C := RX10) (T := TX10) (N := 19) hx hb hts qIX hown hK hP 0 rfl rfl 8 (by decide) (hts _ qOL) (fun _ h9 => h9) rfl (qaa qrN 5 rfl) ?_
    refine lv_iload_n hx hb (qaa qrN 6 rfl) rfl (lv_at hl 1 rfl) ?_
    obtain ⟨hCc, hPc, hDc, hFc⟩ := qac (ws' := (qa7Y jaT jbb jbr jaR jb6 jbb cyI jbQ jaR jbs jbt jbo jbp jbk jbj jbf jbq jbE jbm jbi jcd jb6 jbW jbL jcl jcc jdh jcc cyI jfl jcl cyI jfM jbW cyI jdN jbL cyI jdi)) hP hD hS hA [2, 3, 1, 4, 5, 6, 7, 8] (by decide +kernel) rfl
    refine va_calli (va_runV (As := [.int p1]) (rest := [.int p2, .int r5, .ref jaR]) ⟨hx, hb, hml, hown, hts⟩ (qXY l dC dI cyB cyI cyJ cyP jaT jbb jaR jb6 jcc jcl jbW jbL H.size (jbr) (.ref jbs) (.ref jbt) (jbo) (jbp) (jbk) (jbj) (jbf) (jbq) (.int jbE) (jbi) (jcd) jbQ jbm jdh jdN jdi jfl jfM p1 hw) (cwV 1 hts gX10_hops_X1_reach rfl rfl rfl (by decide +kernel) ⟨nbq rfl, nbq rfl⟩) ⟨qab, va_recv (q := (RX1, TX1, 4)) hK hPc (ci := 1) (q0 := 0) rfl rfl, qae hPc hK hDc hNw⟩ rfl rfl hl.1 rfl (lv_room (nbq rfl)) (qaa qrN 7 rfl) ⟨nbq rfl, nbq rfl⟩) hS (fun q _ h => hFc q h) hFc (fun r8 u t H1 locs ht hvm hw hB hz1 hk1 hS => ?_)
    obtain ⟨f6, f7⟩ := u
    obtain ⟨hP1, hK1, hD1⟩ := hB
    rw [ht] at hP1
    obtain ⟨hP, hD⟩ := qad (wr := [(a0, .inr (10, [jaK, .ref jaR, ja1, jcp, jbc, jbV, ja3, jbH, .ref jaT, jbO, jaq, jac, jbI, jbl, jbn, jba, jaa, .int x2, jdD])), (jbs, .inl (cyI, 8, .inl jci)), (jbt, .inl (cyI, 8, .inl jcj))]) (w1 := (qa7Y jaT jbb jbr jaR jb6 jbb cyI jbQ jaR jbs jbt jbo jbp jbk jbj jbf jbq jbE jbm jbi jcd jb6 jbW jbL jcl jcc jdh jcc cyI f6 jcl cyI f7 jbW cyI jdN jbL cyI jdi)) (wn := (qAV a0 jaK jaR ja1 jcp jbc jbV ja3 jbH jaT jbO jaq jac jbI jbl jbn jba jaa x2 jdD jaR jbs jbt jbo jbp jbk jbj jbf jbq jbE jbm jbi jcd jaT jbb jbr jaR jb6 jbb cyI jbQ jb6 jbW jbL jcl jcc jdh jcc cyI f6 jcl cyI f7 jbW cyI jdN jbL cyI jdi jbs cyI jci jbt cyI jcj)) hP hD [2, 3, 1, 4, 5, 6, 7, 8] [0, 9, 10] [0, 5, 3, 4, 6, 7, 8, 9, 10, 1, 2] hCc rfl (by decide +kernel) (by decide +kernel) (by decide +kernel) rfl hk1 hFc hP1 hD1
    generalize H1 = H at hP hS ⊢
    obtain ⟨hCc, hPc, hDc, hFc⟩ := qac (ws' := (qa7X jaR jbs jbt jbo jbp jbk jbj jbf jbq jbE jbm jbi jcd jbs cyI jci jbt cyI jcj)) hP hD hS hA [1, 9, 10] (by decide +kernel) rfl
    refine va_calli (va_runV (As := [.int r5, .int p2, .int r8]) (rest := []) ⟨hx, hb, hml, hown, hts⟩ (qanE l dC dI cyB cyI cyJ cyP jaR jbs jbt H.size (jbo) (jbp) (jbk) (jbj) (jbf) (jbq) (.int jbm) (jbi) (jcd) jbE jci jcj r5 p2 r8 hw) (cwV 3 hts gX10_hops_X2_hopsBetween rfl rfl rfl (by decide +kernel) ⟨nbq rfl, nbq rfl⟩) ⟨qab, va_recv (q := (RX2, TX2, 12)) hK hPc (ci := 2) (q0 := 0) rfl rfl, qae hPc hK hDc hNw⟩ rfl rfl hl.1 rfl (lv_room (nbq rfl)) (qaa qrN 8 rfl) ⟨nbq rfl, nbq rfl⟩) hS (fun q _ h => hFc q h) hFc (fun r9 u t H1 locs ht hvm hw hB hz1 hk1 hS => ?_)
    obtain ⟨hP1, hK1, hD1⟩ := hB
    rw [ht] at hP1
    obtain ⟨hP, hD⟩ := qad (wr := [(a0, .inr (10, [jaK, .ref jaR, ja1, jcp, jbc, jbV, ja3, jbH, .ref jaT, jbO, jaq, jac, jbI, jbl, jbn, jba, jaa, .int x2, jdD])), (jaT, .inr (1, [.ref jbb, jbr, .ref jaR, .ref jb6])), (jbb, .inl (cyI, 64, .inl jbQ)), (jb6, .inr (4, [.ref jbW, .ref jbL, .ref jcl, .ref jcc, .int jdh])), (jcc, .inl (cyI, 8, .inl f6)), (jcl, .inl (cyI, 150, .inl f7)), (jbW, .inl (cyI, 150, .inl jdN)), (jbL, .inl (cyI, 150, .inl jdi))]) (w1 := (qa7X jaR jbs jbt jbo jbp jbk jbj jbf jbq jbE jbm jbi jcd jbs cyI jci jbt cyI jcj)) (wn := (qAV a0 jaK jaR ja1 jcp jbc jbV ja3 jbH jaT jbO jaq jac jbI jbl jbn jba jaa x2 jdD jaR jbs jbt jbo jbp jbk jbj jbf jbq jbE jbm jbi jcd jaT jbb jbr jaR jb6 jbb cyI jbQ jb6 jbW jbL jcl jcc jdh jcc cyI f6 jcl cyI f7 jbW cyI jdN jbL cyI jdi jbs cyI jci jbt cyI jcj)) hP hD [1, 9, 10] [0, 2, 3, 4, 5, 6, 7, 8] [0, 8, 1, 2, 3, 4, 5, 6, 7, 9, 10] hCc rfl (by decide +kernel) (by decide +kernel) (by decide +kernel) rfl hk1 hFc hP1 hD1
    generalize H1 = H at hP hS ⊢
    exact vx_ret (W.widen (k := 2) (n := 12) (nbq rfl) (nbq rfl) (W.iret (v := r9) hx hb hr (fun t ht hW => ⟨⟨r9, (x2, f6, f7), rfl, hw, by rw [ht]; exact hP, va_K.moved hW.alike hK, hD⟩, hS.F ht⟩) hS.2.2 (qaa qrN 9 rfl)))
  · have hw := hw.2 c4
    refine lv_iconst (v := (-1)) hx hb (qaa qlH 11 rfl) (by decide) ?_
    exact vx_ret (W.widen (k := 2) (n := 12) (nbq rfl) (nbq rfl) (W.iret (v := (-1)) hx hb hr (fun t ht hW => ⟨⟨(-1), (x2, jfl, jfM), rfl, hw, by rw [ht]; exact hP, va_K.moved hW.alike hK, hD⟩, hS.F ht⟩) hS.2.2 (qaa qlH 12 rfl)))
theorem qaJT : (.classLink RL 31 "java/util/NoSuchElementException" : Cond) ∈ wsL_hops := qavi 2639 (by decide +kernel)
theorem qaUU : (.codeWith yL_hops cL_hops 5 (some .int) [(0, 10, 13, 31)] : Cond) ∈ wsL_hops := qavi 3012 (by decide +kernel)
set_option maxHeartbeats 4000000 in
set_option maxRecDepth 100000 in
theorem qa9n (l : Launch) (dC : Nat → ClassId) (dI : Nat → Nat → Nat) (cyB cyI cyJ cyP : ClassId) (a0 a3 jaR jaT jbb jb6 jcc jcl jbW jbL jbs jbt sz : Nat) (jaK ja1 jbc jbV ja3 jbH jbO jaq jac jbI jbl jbn jba jaa jdD jbo jbp jbk jbj jbf jbq jbi jcd jbr : Value) (n3 : Nat) (jbE jbm : Int32) (jbQ : NI) (jdh : Int32) (jdN jdi jci jcj : NI) (jdu : Int32) (jfl jfM : NI) (f3 : Nat → Int64) (p1 p2 : Int32) {Q : Int32 → Int32 → NI → NI → (Nat → Int64) → Prop} (hw : qaWi n3 jbE jbm jbQ jdh jdN jdi jci jcj jdu jfl jfM f3 p1 p2 Q) : Met l yL_hops wsL_hops ({ frames := 8, cells := 2, slots := 12, locals := 163 }) (va_Pc [.ref a0, .int p1, .int p2, .ref a3] (cPx l (dC, dI) (kT cyB cyI cyJ cyP) (qMV a0 jaK jaR ja1 jb6 jbc jbV ja3 jbH jaT jbO jaq jac jbI jbl jbn jba jaa jdu jdD jaR jbs jbt jbo jbp jbk jbj jbf jbq jbE jbm jbi jcd jaT jbb jbr jaR jb6 jbb cyI jbQ jb6 jbW jbL jcl jcc jdh jcc cyI jfl jcl cyI jfM jbW cyI jdN jbL cyI jdi jbs cyI jci jbt cyI jcj a3 cyJ n3 f3) sz)) (va_Qi (fun (r : Int32) (u : Int32 × NI × NI × (Nat → Int64)) => Q r u.1 u.2.1 u.2.2.1 u.2.2.2) (cB (dC, dI) (kT cyB cyI cyJ cyP) (va_A (qMV a0 jaK jaR ja1 jb6 jbc jbV ja3 jbH jaT jbO jaq jac jbI jbl jbn jba jaa jdu jdD jaR jbs jbt jbo jbp jbk jbj jbf jbq jbE jbm jbi jcd jaT jbb jbr jaR jb6 jbb cyI jbQ jb6 jbW jbL jcl jcc jdh jcc cyI jfl jcl cyI jfM jbW cyI jdN jbL cyI jdi jbs cyI jci jbt cyI jcj a3 cyJ n3 f3) sz) (fun u : Int32 × NI × NI × (Nat → Int64) => ((qMV a0 jaK jaR ja1 jb6 jbc jbV ja3 jbH jaT jbO jaq jac jbI jbl jbn jba jaa u.1 jdD jaR jbs jbt jbo jbp jbk jbj jbf jbq jbE jbm jbi jcd jaT jbb jbr jaR jb6 jbb cyI jbQ jb6 jbW jbL jcl jcc jdh jcc cyI u.2.1 jcl cyI u.2.2.1 jbW cyI jdN jbL cyI jdi jbs cyI jci jbt cyI jcj a3 cyJ n3 u.2.2.2) : va_W))) (va_A (qMV a0 jaK jaR ja1 jb6 jbc jbV ja3 jbH jaT jbO jaq jac jbI jbl jbn jba jaa jdu jdD jaR jbs jbt jbo jbp jbk jbj jbf jbq jbE jbm jbi jcd jaT jbb jbr jaR jb6 jbb cyI jbQ jb6 jbW jbL jcl jcc jdh jcc cyI jfl jcl cyI jfM jbW cyI jdN jbL cyI jdi jbs cyI jci jbt cyI jcj a3 cyJ n3 f3) sz)) 2 12 (va_A (qMV a0 jaK jaR ja1 jb6 jbc jbV ja3 jbH jaT jbO jaq jac jbI jbl jbn jba jaa jdu jdD jaR jbs jbt jbo jbp jbk jbj jbf jbq jbE jbm jbi jcd jaT jbb jbr jaR jb6 jbb cyI jbQ jb6 jbW jbL jcl jcc jdh jcc cyI jfl jcl cyI jfM jbW cyI jdN jbL cyI jdi jbs cyI jci jbt cyI jcj a3 cyJ n3 f3) sz) := by
  refine va_MetW (cc := cL_hops) (maxL := 5) (ret := (some .int)) (by decide) rfl ?_
  intro p e s m args below meth c s₁ B hml hv
  obtain ⟨rfl, hsz, hP, hK, hD0, hNw, hXl, hXu, hXn, hXt⟩ := hv
  have hx := B.exec
  have hb := B.bytes
  have hr := B.returns
  have hts := atoms_spec (ws := wsL_hops) B.pre
  have hown : s.vm.findClass RL = some m.cls := findClass_of_methodNamed B.named
  have hlocks := B.notSynchronized
  subst hsz
  have hD := hD0.self (sz := s.heap.size)
  generalize hAe : va_A (qMV a0 jaK jaR ja1 jb6 jbc jbV ja3 jbH jaT jbO jaq jac jbI jbl jbn jba jaa jdu jdD jaR jbs jbt jbo jbp jbk jbj jbf jbq jbE jbm jbi jcd jaT jbb jbr jaR jb6 jbb cyI jbQ jb6 jbW jbL jcl jcc jdh jcc cyI jfl jcl cyI jfM jbW cyI jdN jbL cyI jdi jbs cyI jci jbt cyI jcj a3 cyJ n3 f3) s.heap.size = A at hD hXu hXn ⊢
  have hA : ∀ q : Nat, s.heap.size ≤ q → A q := fun q h => by rw [← hAe]; exact Or.inr h
  have hS : va_S A s.heap s.heap [] := va_S.rf
  have hP : va_P (dC, dI) vwCl (qMV a0 jaK jaR ja1 jb6 jbc jbV ja3 jbH jaT jbO jaq jac jbI jbl jbn jba jaa jdu jdD jaR jbs jbt jbo jbp jbk jbj jbf jbq jbE jbm jbi jcd jaT jbb jbr jaR jb6 jbb cyI jbQ jb6 jbW jbL jcl jcc jdh jcc cyI jfl jcl cyI jfM jbW cyI jdN jbL cyI jdi jbs cyI jci jbt cyI jcj a3 cyJ n3 f3) s.heap := hP
  have hl := lv_entry ([.ref a0, .int p1, .int p2, .ref a3]) (n := 5) (nbq rfl)
  rw [lg_entry_eq]
  generalize (lg_sl ([.ref a0, .int p1, .int p2, .ref a3]) ++ List.replicate (5 - (lg_sl ([.ref a0, .int p1, .int p2, .ref a3])).length) Slot.unset).toArray = ls at hl ⊢
  have hl : lv_has ls 5 [(0, .ref a0), (1, .int p1), (2, .int p2), (3, .ref a3)] := hl
  have hY : cfY l s A := ⟨hXl, hXu, hXn, hXt⟩
  have hTb := vx_table (x := yL_hops) B (hts _ qaUU)
  clear hAe
  obtain ⟨H, hH⟩ : ∃ H, H = s.heap := ⟨_, rfl⟩
  rw [← hH] at hP ⊢
  have hS : va_S A s.heap H [] := by rw [hH]; exact va_S.rf
  have hS := hS
  refine lv_aload_n hx hb (qaa qsj 0 rfl) rfl (lv_at hl 3 rfl) ?_
  refine lv_iconst (v := 0) hx hb (qaa qsj 1 rfl) (by decide) ?_
  refine lv_aload_n hx hb (qaa qsj 2 rfl) rfl (lv_at hl 0 rfl) ?_
  refine lv_iload_n hx hb (qaa qsj 3 rfl) rfl (lv_at hl 1 rfl) ?_
  refine lv_iload_n hx hb (qaa qsj 4 rfl) rfl (lv_at hl 2 rfl) ?_
  obtain ⟨hCc, hPc, hDc, hFc⟩ := qac (ws' := (qaYf a0 jaK jaR ja1 jb6 jbc jbV ja3 jbH jaT jbO jaq jac jbI jbl jbn jba jaa jdu jdD jaR jbs jbt jbo jbp jbk jbj jbf jbq jbE jbm jbi jcd jaT jbb jbr jaR jb6 jbb cyI jbQ jb6 jbW jbL jcl jcc jdh jcc cyI jfl jcl cyI jfM jbW cyI jdN jbL cyI jdi jbs cyI jci jbt cyI jcj)) hP hD hS hA [0, 1, 2, 3, 4, 5, 6, 7, 8, 9, 10] (by decide +kernel) rfl
  refine vx_calli (vx_runV (As := [.int p1, .int p2]) (rest := [.int 0, .ref a3]) ⟨hx, hb, hml, hown, hts⟩ (qaYu l dC dI cyB cyI cyJ cyP a0 jaR jaT jbb jb6 jcc jcl jbW jbL jbs jbt H.size (jaK) (ja1) (.ref jb6) (jbc) (jbV) (ja3) (jbH) (jbO) (jaq) (jac) (jbI) (jbl) (jbn) (jba) (jaa) (jdD) (jbo) (jbp) (jbk) (jbj) (jbf) (jbq) (jbi) (jcd) (jbr) jbE jbm jbQ jdh jdN jdi jci jcj jdu jfl jfM p1 p2 hw) (cwV 2 hts gL_hops_X10_hops rfl rfl rfl (by decide +kernel) ⟨nbq rfl, nbq rfl⟩) ⟨qav, va_recv (q := (RX10, TX10, 19)) hK hPc (ci := 10) (q0 := 0) rfl rfl, qbl hPc hK hDc hNw hY hS hFc⟩ rfl rfl hl.1 rfl (lv_room (nbq rfl)) (qaa qsj 5 rfl) ⟨nbq rfl, nbq rfl⟩) hS (fun q _ h => hFc q h) hFc (fun q _ h => hFc q h) (fun en ce qx9 u t H1 locs ht hvm hpx hB hz1 hk1 hS hc9 hv9 hcl9 => ?_) (fun r5 u t H1 locs ht hvm hw hB hz1 hk1 hS => ?_)
  · obtain ⟨x1, f2, f4⟩ := u
    obtain ⟨hw, hP1, hK1, hD1⟩ := hB
    rw [ht] at hP1
    obtain ⟨hP, hD⟩ := qad (wr := [(a3, .inl (cyJ, n3, .inr (.inl f3)))]) (w1 := (qaYf a0 jaK jaR ja1 jb6 jbc jbV ja3 jbH jaT jbO jaq jac jbI jbl jbn jba jaa x1 jdD jaR jbs jbt jbo jbp jbk jbj jbf jbq jbE jbm jbi jcd jaT jbb jbr jaR jb6 jbb cyI jbQ jb6 jbW jbL jcl jcc jdh jcc cyI f2 jcl cyI f4 jbW cyI jdN jbL cyI jdi jbs cyI jci jbt cyI jcj)) (wn := (qMV a0 jaK jaR ja1 jb6 jbc jbV ja3 jbH jaT jbO jaq jac jbI jbl jbn jba jaa x1 jdD jaR jbs jbt jbo jbp jbk jbj jbf jbq jbE jbm jbi jcd jaT jbb jbr jaR jb6 jbb cyI jbQ jb6 jbW jbL jcl jcc jdh jcc cyI f2 jcl cyI f4 jbW cyI jdN jbL cyI jdi jbs cyI jci jbt cyI jcj a3 cyJ n3 f3)) hP hD [0, 1, 2, 3, 4, 5, 6, 7, 8, 9, 10] [11] [1, 2, 3, 4, 5, 6, 7, 8, 9, 10, 11, 0] hCc rfl (by decide +kernel) (by decide +kernel) (by decide +kernel) rfl hk1 hFc hP1 hD1
    generalize H1 = H at hP hS hc9 ⊢
    obtain ⟨rfl, hw⟩ := hw
    refine vx_catch (own := RL) (name := "java/util/NoSuchElementException") hown [] ⟨0, 10, 13, 31⟩ [] (hTb.trans rfl) (fun z hz => nomatch hz) (by decide) (by decide) (hts _ qaJT) (va_Nw.use rfl (hY.2.2.2.1.2 _ (List.mem_of_getElem? (i := 1) rfl))) hc9 hv9 hcl9 ?_
    refine lv_astore (lv' := [(4, .ref qx9), (0, .ref a0), (1, .int p1), (2, .int p2), (3, .ref a3)]) hx hb (qaa qsj 9 rfl) hl (by decide) rfl (fun ls hl => ?_)
    refine lv_iconst (v := 1) hx hb (qaa qsj 10 rfl) (by decide) ?_
    exact (W.widen (k := 2) (n := 12) (nbq rfl) (nbq rfl) (W.iret (v := 1) hx hb hr (fun t ht hW => ⟨⟨1, (x1, f2, f4, f3), rfl, hw, by rw [ht]; exact hP, va_K.moved hW.alike hK, hD⟩, hS.F ht⟩) hS.2.2 (qaa qsj 11 rfl)))
  obtain ⟨x1, f2, f4⟩ := u
  obtain ⟨hP1, hK1, hD1⟩ := hB
  rw [ht] at hP1
  obtain ⟨hP, hD⟩ := va_join (wr := [(a3, .inl (cyJ, n3, .inr (.inl f3)))]) (w1 := (qaYf a0 jaK jaR ja1 jb6 jbc jbV ja3 jbH jaT jbO jaq jac jbI jbl jbn jba jaa x1 jdD jaR jbs jbt jbo jbp jbk jbj jbf jbq jbE jbm jbi jcd jaT jbb jbr jaR jb6 jbb cyI jbQ jb6 jbW jbL jcl jcc jdh jcc cyI f2 jcl cyI f4 jbW cyI jdN jbL cyI jdi jbs cyI jci jbt cyI jcj)) hP hD [0, 1, 2, 3, 4, 5, 6, 7, 8, 9, 10] [11] rfl rfl (by decide) (by decide) hk1 hFc hP1 hD1
  have hP : va_P (dC, dI) vwCl (qMV a0 jaK jaR ja1 jb6 jbc jbV ja3 jbH jaT jbO jaq jac jbI jbl jbn jba jaa x1 jdD jaR jbs jbt jbo jbp jbk jbj jbf jbq jbE jbm jbi jcd jaT jbb jbr jaR jb6 jbb cyI jbQ jb6 jbW jbL jcl jcc jdh jcc cyI f2 jcl cyI f4 jbW cyI jdN jbL cyI jdi jbs cyI jci jbt cyI jcj a3 cyJ n3 f3) H1 := hP.sub [1, 2, 3, 4, 5, 6, 7, 8, 9, 10, 11, 0] rfl
  have hD : va_D A (qMV a0 jaK jaR ja1 jb6 jbc jbV ja3 jbH jaT jbO jaq jac jbI jbl jbn jba jaa x1 jdD jaR jbs jbt jbo jbp jbk jbj jbf jbq jbE jbm jbi jcd jaT jbb jbr jaR jb6 jbb cyI jbQ jb6 jbW jbL jcl jcc jdh jcc cyI f2 jcl cyI f4 jbW cyI jdN jbL cyI jdi jbs cyI jci jbt cyI jcj a3 cyJ n3 f3) := hD.sub [1, 2, 3, 4, 5, 6, 7, 8, 9, 10, 11, 0] (by decide) rfl
  generalize H1 = H at hP hS ⊢
  refine lv_i2l (v := r5.toInt64) hx hb (qaa qsj 6 rfl) rfl ?_
  refine lv_topl (fun x6 ex6 => ?_)
  have hw := hw x6 ex6
  obtain ⟨hi9, hw⟩ := hw
  refine va_last hx hb hK hP hD hS 11 2 rfl rfl hi9 (qaa qsj 7 rfl) (fun H locs hP hD hS => ?_)
  obtain ⟨f7, ef7⟩ : ∃ y : Nat → Int64, y = vp_updL f3 (0 : Int32).toNatClampNeg x6 := ⟨_, rfl⟩
  have hw := hw f7 ef7
  have hP : va_P (dC, dI) vwCl (qMV a0 jaK jaR ja1 jb6 jbc jbV ja3 jbH jaT jbO jaq jac jbI jbl jbn jba jaa x1 jdD jaR jbs jbt jbo jbp jbk jbj jbf jbq jbE jbm jbi jcd jaT jbb jbr jaR jb6 jbb cyI jbQ jb6 jbW jbL jcl jcc jdh jcc cyI f2 jcl cyI f4 jbW cyI jdN jbL cyI jdi jbs cyI jci jbt cyI jcj a3 cyJ n3 f7) H := by rw [ef7]; exact hP
  have hD : va_D A (qMV a0 jaK jaR ja1 jb6 jbc jbV ja3 jbH jaT jbO jaq jac jbI jbl jbn jba jaa x1 jdD jaR jbs jbt jbo jbp jbk jbj jbf jbq jbE jbm jbi jcd jaT jbb jbr jaR jb6 jbb cyI jbQ jb6 jbW jbL jcl jcc jdh jcc cyI f2 jcl cyI f4 jbW cyI jdN jbL cyI jdi jbs cyI jci jbt cyI jcj a3 cyJ n3 f7) := by rw [ef7]; exact hD
  refine lv_goto (tgt := 17) hx hb (qaa qsj 8 rfl) (by decide) ?_
  refine lv_iconst (v := 0) hx hb (qaa qsj 12 rfl) (by decide) ?_
  exact (W.widen (k := 2) (n := 12) (nbq rfl) (nbq rfl) (W.iret (v := 0) hx hb hr (fun t ht hW => ⟨⟨0, (x1, f2, f4, f7), rfl, hw, by rw [ht]; exact hP, va_K.moved hW.alike hK, hD⟩, hS.F ht⟩) hS.2.2 (qaa qsj 13 rfl)))
theorem qagV : ∀ w ∈ u_ws RX8 TX8 7, w ∈ wsX8_seesDigit := uiM qAH euX8 (by decide +kernel)
theorem qacb : (.fieldLink RX8 31 "MarchHares$Tape" "at" "I" : Cond) ∈ wsX8_seesDigit := qAH 713 (by decide +kernel)
set_option maxHeartbeats 4000000 in
set_option maxRecDepth 100000 in
theorem q1E (l : Launch) (dC : Nat → ClassId) (dI : Nat → Nat → Nat) (cyB cyI cyJ cyP : ClassId) (a0 jif sz : Nat) (jl9 jjY jmS jkr : Value) (jb7 : Int32) (jjA : NI) (jcP : Int32) {Q : Int32 → Int32 → Prop} (hw : qG9 jb7 jjA jcP Q) : Met l yX8_seesDigit wsX8_seesDigit ({ frames := 1, cells := 0, slots := 0, locals := 21 }) (va_Pc [.ref a0] (cPc (dC, dI) (kT cyB cyI cyJ cyP) (qJR a0 jif jb7 jcP jl9 jjY jmS jkr jif cyB jjA) sz)) (va_Qi (fun (r u : Int32) => Q r u) (cB (dC, dI) (kT cyB cyI cyJ cyP) (va_A (qJR a0 jif jb7 jcP jl9 jjY jmS jkr jif cyB jjA) sz) (fun u : Int32 => ((qJR a0 jif jb7 u jl9 jjY jmS jkr jif cyB jjA) : va_W))) (va_A (qJR a0 jif jb7 jcP jl9 jjY jmS jkr jif cyB jjA) sz)) 0 0 (va_A (qJR a0 jif jb7 jcP jl9 jjY jmS jkr jif cyB jjA) sz) := by
  refine Met.ofW (cc := cX8_seesDigit) (maxL := 1) (ret := (some .boolean)) (by decide) rfl ?_
  intro p e s m args below meth c s₁ B hml hv
  obtain ⟨rfl, hsz, hP, hK, hD0, hNw⟩ := hv
  have hx := B.exec
  have hb := B.bytes
  have hr := B.returns
  have hts := atoms_spec (ws := wsX8_seesDigit) B.pre
  have hown : s.vm.findClass RX8 = some m.cls := findClass_of_methodNamed B.named
  have hlocks := B.notSynchronized
  subst hsz
  have hD := hD0.self (sz := s.heap.size)
  generalize hAe : va_A (qJR a0 jif jb7 jcP jl9 jjY jmS jkr jif cyB jjA) s.heap.size = A at hD ⊢
  have hA : ∀ q : Nat, s.heap.size ≤ q → A q := fun q h => by rw [← hAe]; exact Or.inr h
  have hS : va_S A s.heap s.heap [] := va_S.rf
  have hP : va_P (dC, dI) vwCl (qJR a0 jif jb7 jcP jl9 jjY jmS jkr jif cyB jjA) s.heap := hP
  have hl := lv_entry ([.ref a0]) (n := 1) (nbq rfl)
  rw [lg_entry_eq]
  generalize (lg_sl ([.ref a0]) ++ List.replicate (1 - (lg_sl ([.ref a0])).length) Slot.unset).toArray = ls at hl ⊢
  have hl : lv_has ls 1 [(0, .ref a0)] := hl
  have C0 : cfx p s m _ meth c cX8_seesDigit (some .boolean) wsX8_seesDigit RX8 1 A (dC, dI) (kT cyB cyI cyJ cyP) := ⟨hx, hb, hr, hts, hown, hlocks, hml, hA, hK, hNw⟩
  clear hAe
  obtain ⟨H, hH⟩ : ∃ H, H = s.heap := ⟨_, rfl⟩
  rw [← hH] at hP ⊢
  have hS : va_S A s.heap H [] := by rw [hH]; exact va_S.rf
  have hS := hS
  refine lv_aload_n hx hb (qaa qkF 0 rfl) rfl (lv_at hl 0 rfl) ?_
  obtain ⟨hCc, hPc, hDc, hFc⟩ := qac (ws' := (qJR a0 jif jb7 jcP jl9 jjY jmS jkr jif cyB jjA)) hP hD hS hA [0, 1] (by decide +kernel) rfl
  refine va_callv (va_runV (As := []) (rest := []) ⟨hx, hb, hml, hown, hts⟩ (qwt l dC dI cyB cyI cyJ cyP a0 jif H.size (jl9) (jjY) (jmS) (jkr) jb7 jjA jcP hw) (cwV 0 hts gX8_seesDigit_X8_skipBlanks rfl rfl rfl (by decide +kernel) ⟨nbq rfl, nbq rfl⟩) ⟨qab, va_recv (q := (RX8, TX8, 7)) hK hPc (ci := 8) (q0 := 0) rfl rfl, qae hPc hK hDc hNw⟩ rfl rfl hl.1 rfl (lv_room (nbq rfl)) (qaa qkF 1 rfl) ⟨nbq rfl, nbq rfl⟩) hS (fun q _ h => hFc q h) hFc (fun u t H1 locs ht hvm hw hB hz1 hk1 hS => ?_)
  obtain ⟨x1, rfl⟩ : ∃ z, z = u := ⟨_, rfl⟩
  obtain ⟨hP1, hK1, hD1⟩ := hB
  rw [ht] at hP1
  obtain ⟨hP, hD⟩ := qah (wr := []) (w1 := (qJR a0 jif jb7 x1 jl9 jjY jmS jkr jif cyB jjA)) (wn := (qJR a0 jif jb7 x1 jl9 jjY jmS jkr jif cyB jjA)) hP hD [0, 1] [] hCc rfl (by decide +kernel) (by decide +kernel) rfl hk1 hFc hP1 hD1
  generalize H1 = H at hP hS ⊢
  refine lv_aload_n hx hb (qaa qkF 2 rfl) rfl (lv_at hl 0 rfl) ?_
  refine lv_aload_n hx hb (qaa qkF 3 rfl) rfl (lv_at hl 0 rfl) ?_
  refine va_get (D := (dC, dI)) (ci := 8) (v := .int x1) (C := RX8) (T := TX8) (N := 7) hx hb hts qagV hown hK hP 0 rfl rfl 2 (by decide) (hts _ qacb) (fun _ h9 => h9) rfl (qaa qkF 4 rfl) ?_
  obtain ⟨hCc, hPc, hDc, hFc⟩ := qac (ws' := (qJR a0 jif jb7 x1 jl9 jjY jmS jkr jif cyB jjA)) hP hD hS hA [0, 1] (by decide +kernel) rfl
  refine va_calli (va_runV (As := [.int x1]) (rest := []) ⟨hx, hb, hml, hown, hts⟩ (qOh l dC dI cyB cyI cyJ cyP a0 jif H.size (.int x1) (jl9) (jjY) (jmS) (jkr) jb7 jjA x1 hw) (cwV 1 hts gX8_seesDigit_X8_digitAt rfl rfl rfl (by decide +kernel) ⟨nbq rfl, nbq rfl⟩) ⟨qab, va_recv (q := (RX8, TX8, 7)) hK hPc (ci := 8) (q0 := 0) rfl rfl, qae hPc hK hDc hNw⟩ rfl rfl hl.1 rfl (lv_room (nbq rfl)) (qaa qkF 5 rfl) ⟨nbq rfl, nbq rfl⟩) hS (fun q _ h => hFc q h) hFc (fun r2 u t H1 locs ht hvm hw hB hz1 hk1 hS => ?_)
  obtain ⟨hP1, hK1, hD1⟩ := hB
  rw [ht] at hP1
  obtain ⟨hP, hD⟩ := qah (wr := []) (w1 := (qJR a0 jif jb7 x1 jl9 jjY jmS jkr jif cyB jjA)) (wn := (qJR a0 jif jb7 x1 jl9 jjY jmS jkr jif cyB jjA)) hP hD [0, 1] [] hCc rfl (by decide +kernel) (by decide +kernel) rfl hk1 hFc hP1 hD1
  generalize H1 = H at hP hS ⊢
  refine lv_if_lt (tgt := 19) hx hb (qaa qkF 6 rfl) (by decide) (fun c3 => ?_) (fun c3 => ?_)
  · have hw := hw.1 c3
    refine lv_iconst (v := 0) hx hb (qaa qkF 9 rfl) (by decide) ?_
    exact ((W.zret (v := 0) hx hb hr rfl (fun t ht hW => ⟨⟨0, (x1), rfl, hw, by rw [ht]; exact hP, va_K.moved hW.alike hK, hD⟩, hS.F ht⟩) hS.2.2 (qaa qkF 10 rfl)))
  · have hw := hw.2 c3
    refine lv_iconst (v := 1) hx hb (qaa qkF 7 rfl) (by decide) ?_
    refine lv_goto (tgt := 20) hx hb (qaa qkF 8 rfl) (by decide) ?_
    exact ((W.zret (v := 1) hx hb hr rfl (fun t ht hW => ⟨⟨1, (x1), rfl, hw, by rw [ht]; exact hP, va_K.moved hW.alike hK, hD⟩, hS.F ht⟩) hS.2.2 (qaa qkF 10 rfl)))
set_option maxHeartbeats 4000000 in
set_option maxRecDepth 100000 in
theorem qaJf (l : Launch) (dC : Nat → ClassId) (dI : Nat → Nat → Nat) (cyB cyI cyJ cyP : ClassId) (a0 jif sz : Nat) (jl9 jjY : Value) (jb7 : Int32) (jjA : NI) (jcP jkC jj3 : Int32) {Q : Int32 → Int32 → Int32 → Prop} (hw : qUM jb7 jjA jcP jkC jj3 Q) : Met l yX8_needsEnd wsX8_needsEnd ({ frames := 2, cells := 0, slots := 0, locals := 42 }) (va_Pc [.ref a0] (cPc (dC, dI) (kT cyB cyI cyJ cyP) (qJS a0 jif jb7 jcP jl9 jjY jkC jj3 jif cyB jjA) sz)) (va_Qv (fun (u : Int32 × Int32 × Int32) => Q u.1 u.2.1 u.2.2) (cB (dC, dI) (kT cyB cyI cyJ cyP) (va_A (qJS a0 jif jb7 jcP jl9 jjY jkC jj3 jif cyB jjA) sz) (fun u : Int32 × Int32 × Int32 => ((qJS a0 jif jb7 u.1 jl9 jjY u.2.1 u.2.2 jif cyB jjA) : va_W))) (va_A (qJS a0 jif jb7 jcP jl9 jjY jkC jj3 jif cyB jjA) sz)) 0 0 (va_A (qJS a0 jif jb7 jcP jl9 jjY jkC jj3 jif cyB jjA) sz) := by
  refine Met.ofW (cc := cX8_needsEnd) (maxL := 1) (ret := none) (by decide) rfl ?_
  intro p e s m args below meth c s₁ B hml hv
  obtain ⟨rfl, hsz, hP, hK, hD0, hNw⟩ := hv
  have hx := B.exec
  have hb := B.bytes
  have hr := B.returns
  have hts := atoms_spec (ws := wsX8_needsEnd) B.pre
  have hown : s.vm.findClass RX8 = some m.cls := findClass_of_methodNamed B.named
  have hlocks := B.notSynchronized
  subst hsz
  have hD := hD0.self (sz := s.heap.size)
  generalize hAe : va_A (qJS a0 jif jb7 jcP jl9 jjY jkC jj3 jif cyB jjA) s.heap.size = A at hD ⊢
  have hA : ∀ q : Nat, s.heap.size ≤ q → A q := fun q h => by rw [← hAe]; exact Or.inr h
  have hS : va_S A s.heap s.heap [] := va_S.rf
  have hP : va_P (dC, dI) vwCl (qJS a0 jif jb7 jcP jl9 jjY jkC jj3 jif cyB jjA) s.heap := hP
  have hl := lv_entry ([.ref a0]) (n := 1) (nbq rfl)
  rw [lg_entry_eq]
  generalize (lg_sl ([.ref a0]) ++ List.replicate (1 - (lg_sl ([.ref a0])).length) Slot.unset).toArray = ls at hl ⊢
  have hl : lv_has ls 1 [(0, .ref a0)] := hl
  have C0 : cfx p s m _ meth c cX8_needsEnd none wsX8_needsEnd RX8 1 A (dC, dI) (kT cyB cyI cyJ cyP) := ⟨hx, hb, hr, hts, hown, hlocks, hml, hA, hK, hNw⟩
  clear hAe
  obtain ⟨H, hH⟩ : ∃ H, H = s.heap := ⟨_, rfl⟩
  rw [← hH] at hP ⊢
  have hS : va_S A s.heap H [] := by rw [hH]; exact va_S.rf
  have hS := hS
  refine lv_aload_n hx hb (qaa quG 0 rfl) rfl (lv_at hl 0 rfl) ?_
  obtain ⟨hCc, hPc, hDc, hFc⟩ := qac (ws' := (qJS a0 jif jb7 jcP jl9 jjY jkC jj3 jif cyB jjA)) hP hD hS hA [0, 1] (by decide +kernel) rfl
  refine va_calli (va_runV (As := []) (rest := []) ⟨hx, hb, hml, hown, hts⟩ (qN1 l dC dI cyB cyI cyJ cyP a0 jif H.size (jl9) (jjY) (.int jkC) (.int jj3) jb7 jjA jcP hw) (cwV 0 hts gX8_needsEnd_X8_isEnded rfl rfl rfl (by decide +kernel) ⟨nbq rfl, nbq rfl⟩) ⟨qab, va_recv (q := (RX8, TX8, 7)) hK hPc (ci := 8) (q0 := 0) rfl rfl, qae hPc hK hDc hNw⟩ rfl rfl hl.1 rfl (lv_room (nbq rfl)) (qaa quG 1 rfl) ⟨nbq rfl, nbq rfl⟩) hS (fun q _ h => hFc q h) hFc (fun r2 u t H1 locs ht hvm hw hB hz1 hk1 hS => ?_)
  obtain ⟨x1, rfl⟩ : ∃ z, z = u := ⟨_, rfl⟩
  obtain ⟨hP1, hK1, hD1⟩ := hB
  rw [ht] at hP1
  obtain ⟨hP, hD⟩ := qah (wr := []) (w1 := (qJS a0 jif jb7 x1 jl9 jjY jkC jj3 jif cyB jjA)) (wn := (qJS a0 jif jb7 x1 jl9 jjY jkC jj3 jif cyB jjA)) hP hD [0, 1] [] hCc rfl (by decide +kernel) (by decide +kernel) rfl hk1 hFc hP1 hD1
  generalize H1 = H at hP hS ⊢
  refine lv_if_ne (tgt := 11) hx hb (qaa quG 2 rfl) (by decide) (fun c3 => ?_) (fun c3 => ?_)
  · have hw := hw.1 c3
    exact ((W.vret hx hb hr (fun t ht hW => ⟨⟨(x1, jkC, jj3), rfl, hw, by rw [ht]; exact hP, va_K.moved hW.alike hK, hD⟩, hS.F ht⟩) hS.2.2 (qaa quG 5 rfl)))
  · have hw := hw.2 c3
    refine lv_aload_n hx hb (qaa quG 3 rfl) rfl (lv_at hl 0 rfl) ?_
    obtain ⟨hCc, hPc, hDc, hFc⟩ := qac (ws' := (qJS a0 jif jb7 x1 jl9 jjY jkC jj3 jif cyB jjA)) hP hD hS hA [0, 1] (by decide +kernel) rfl
    refine va_callv (va_runV (As := []) (rest := []) ⟨hx, hb, hml, hown, hts⟩ (qCs l dC dI cyB cyI cyJ cyP a0 jif H.size (jl9) (jjY) jb7 jjA x1 jkC jj3 hw) (cwV 0 hts gX8_needsEnd_X8_blameSign rfl rfl rfl (by decide +kernel) ⟨nbq rfl, nbq rfl⟩) ⟨qab, va_recv (q := (RX8, TX8, 7)) hK hPc (ci := 8) (q0 := 0) rfl rfl, qae hPc hK hDc hNw⟩ rfl rfl hl.1 rfl (lv_room (nbq rfl)) (qaa quG 4 rfl) ⟨nbq rfl, nbq rfl⟩) hS (fun q _ h => hFc q h) hFc (fun u t H1 locs ht hvm hw hB hz1 hk1 hS => ?_)
    obtain ⟨x4, x5, x6⟩ := u
    obtain ⟨hP1, hK1, hD1⟩ := hB
    rw [ht] at hP1
    obtain ⟨hP, hD⟩ := qah (wr := []) (w1 := (qJS a0 jif jb7 x4 jl9 jjY x5 x6 jif cyB jjA)) (wn := (qJS a0 jif jb7 x4 jl9 jjY x5 x6 jif cyB jjA)) hP hD [0, 1] [] hCc rfl (by decide +kernel) (by decide +kernel) rfl hk1 hFc hP1 hD1
    generalize H1 = H at hP hS ⊢
    exact ((W.vret hx hb hr (fun t ht hW => ⟨⟨(x4, x5, x6), rfl, hw, by rw [ht]; exact hP, va_K.moved hW.alike hK, hD⟩, hS.F ht⟩) hS.2.2 (qaa quG 5 rfl)))
theorem qaO9 : ∀ w ∈ u_ws RX1 TX1 4, w ∈ wsX1_obey := uiM qaUA qWg (by decide +kernel)
theorem qaGY : (.fieldLink RX1 28 "MarchHares$Days" "law" "LMarchHares$Law;" : Cond) ∈ wsX1_obey := qaUA 323 (by decide +kernel)
set_option maxHeartbeats 4000000 in
set_option maxRecDepth 100000 in
theorem qa1Q (l : Launch) (dC : Nat → ClassId) (dI : Nat → Nat → Nat) (cyB cyI cyJ cyP : ClassId) (a0 a1 sz : Nat) (jmX jcD ji6 jo9 : Value) {Q : Prop} (hw : qaMb Q) : Met l yX1_obey wsX1_obey ({ frames := 0, cells := 0, slots := 0, locals := 0 }) (va_Pc [.ref a0, .ref a1] (cPc (dC, dI) (kT cyB cyI cyJ cyP) (qal0 a0 jmX jcD ji6 jo9) sz)) (va_Qv (fun (_ : Unit) => Q ) (cB (dC, dI) (kT cyB cyI cyJ cyP) (va_A (qal0 a0 jmX jcD ji6 jo9) sz) (fun u : Unit => ((qaWC a0 jmX jcD ji6 a1) : va_W))) (va_A (qal0 a0 jmX jcD ji6 jo9) sz)) 0 0 (va_A (qal0 a0 jmX jcD ji6 jo9) sz) := by
  refine Met.ofW (cc := cX1_obey) (maxL := 2) (ret := none) (by decide) rfl ?_
  intro p e s m args below meth c s₁ B hml hv
  obtain ⟨rfl, hsz, hP, hK, hD0, hNw⟩ := hv
  have hx := B.exec
  have hb := B.bytes
  have hr := B.returns
  have hts := atoms_spec (ws := wsX1_obey) B.pre
  have hown : s.vm.findClass RX1 = some m.cls := findClass_of_methodNamed B.named
  have hlocks := B.notSynchronized
  subst hsz
  have hD := hD0.self (sz := s.heap.size)
  generalize hAe : va_A (qal0 a0 jmX jcD ji6 jo9) s.heap.size = A at hD ⊢
  have hA : ∀ q : Nat, s.heap.size ≤ q → A q := fun q h => by rw [← hAe]; exact Or.inr h
  have hS : va_S A s.heap s.heap [] := va_S.rf
  have hP : va_P (dC, dI) vwCl (qal0 a0 jmX jcD ji6 jo9) s.heap := hP
  have hl := lv_entry ([.ref a0, .ref a1]) (n := 2) (nbq rfl)
  rw [lg_entry_eq]
  generalize (lg_sl ([.ref a0, .ref a1]) ++ List.replicate (2 - (lg_sl ([.ref a0, .ref a1])).length) Slot.unset).toArray = ls at hl ⊢
  have hl : lv_has ls 2 [(0, .ref a0), (1, .ref a1)] := hl
  have C0 : cfx p s m _ meth c cX1_obey none wsX1_obey RX1 2 A (dC, dI) (kT cyB cyI cyJ cyP) := ⟨hx, hb, hr, hts, hown, hlocks, hml, hA, hK, hNw⟩
  clear hAe
  obtain ⟨H, hH⟩ : ∃ H, H = s.heap := ⟨_, rfl⟩
  rw [← hH] at hP ⊢
  have hS : va_S A s.heap H [] := by rw [hH]; exact va_S.rf
  have hS := hS
  refine lv_aload_n hx hb (qaa qRJ 0 rfl) rfl (lv_at hl 0 rfl) ?_
  refine lv_aload_n hx hb (qaa qRJ 1 rfl) rfl (lv_at hl 1 rfl) ?_
  refine va_put (D := (dC, dI)) (ci := 1) (v := .ref a1) (ty := .object "MarchHares$Law") (C := RX1) (T := TX1) (N := 4) hx hb hts qaO9 tyX1 tyX1_ok nmX1 hown hK hP hD hS 0 rfl rfl 3 (by decide) (hts _ qaGY) (fun _ h9 => h9) rfl (by decide +kernel) rfl rfl (nbq rfl) (qaa qRJ 2 rfl) (fun H locs hP hD hS => ?_)
  have hP : va_P (dC, dI) vwCl (qaWC a0 jmX jcD ji6 a1) H := hP
  have hD : va_D A (qaWC a0 jmX jcD ji6 a1) := hD
  exact ((W.vret hx hb hr (fun t ht hW => ⟨⟨(), rfl, hw, by rw [ht]; exact hP, va_K.moved hW.alike hK, hD⟩, hS.F ht⟩) hS.2.2 (qaa qRJ 3 rfl)))
theorem qZG : ∀ w ∈ u_ws RX3 TX3 11, w ∈ wsX3_tallied := uiM qLh euX3 (by decide +kernel)
theorem qVy : (.fieldLink RX3 21 "MarchHares$Fitting" "tally" "[I" : Cond) ∈ wsX3_tallied := qLh 393 (by decide +kernel)
theorem q0C : (.initialized RX10 : Cond) ∈ wsX3_tallied := qLh 2 (by decide +kernel)
theorem qRB : (.static yX10_within : Cond) ∈ wsX3_tallied := qLh 658 (by decide +kernel)
set_option maxHeartbeats 4000000 in
set_option maxRecDepth 100000 in
theorem qaOj (l : Launch) (dC : Nat → ClassId) (dI : Nat → Nat → Nat) (cyB cyI cyJ cyP : ClassId) (a0 jlj sz : Nat) (jmf jpq jlU ja4 ja0 jaO jmb jmc jkn jjZ : Value) (jly : NI) (p1 : Int32) {Q : Int32 → NI → Prop} (hw : qWX jly p1 Q) : Met l yX3_tallied wsX3_tallied ({ frames := 1, cells := 0, slots := 0, locals := 22 }) (va_Pc [.ref a0, .int p1] (cPc (dC, dI) (kT cyB cyI cyJ cyP) (qRa a0 jmf jpq jlU jlj ja4 ja0 jaO jmb jmc jkn jjZ jlj cyI jly) sz)) (va_Qi (fun (r : Int32) (u : NI) => Q r u) (cB (dC, dI) (kT cyB cyI cyJ cyP) (va_A (qRa a0 jmf jpq jlU jlj ja4 ja0 jaO jmb jmc jkn jjZ jlj cyI jly) sz) (fun u : NI => ((qRa a0 jmf jpq jlU jlj ja4 ja0 jaO jmb jmc jkn jjZ jlj cyI u) : va_W))) (va_A (qRa a0 jmf jpq jlU jlj ja4 ja0 jaO jmb jmc jkn jjZ jlj cyI jly) sz)) 0 0 (va_A (qRa a0 jmf jpq jlU jlj ja4 ja0 jaO jmb jmc jkn jjZ jlj cyI jly) sz) := by
  refine Met.ofW (cc := cX3_tallied) (maxL := 2) (ret := (some .int)) (by decide) rfl ?_
  intro p e s m args below meth c s₁ B hml hv
  obtain ⟨rfl, hsz, hP, hK, hD0, hNw⟩ := hv
  have hx := B.exec
  have hb := B.bytes
  have hr := B.returns
  have hts := atoms_spec (ws := wsX3_tallied) B.pre
  have hown : s.vm.findClass RX3 = some m.cls := findClass_of_methodNamed B.named
  have hlocks := B.notSynchronized
  subst hsz
  have hD := hD0.self (sz := s.heap.size)
  generalize hAe : va_A (qRa a0 jmf jpq jlU jlj ja4 ja0 jaO jmb jmc jkn jjZ jlj cyI jly) s.heap.size = A at hD ⊢
  have hA : ∀ q : Nat, s.heap.size ≤ q → A q := fun q h => by rw [← hAe]; exact Or.inr h
  have hS : va_S A s.heap s.heap [] := va_S.rf
  have hP : va_P (dC, dI) vwCl (qRa a0 jmf jpq jlU jlj ja4 ja0 jaO jmb jmc jkn jjZ jlj cyI jly) s.heap := hP
  have hl := lv_entry ([.ref a0, .int p1]) (n := 2) (nbq rfl)
  rw [lg_entry_eq]
  generalize (lg_sl ([.ref a0, .int p1]) ++ List.replicate (2 - (lg_sl ([.ref a0, .int p1])).length) Slot.unset).toArray = ls at hl ⊢
  have hl : lv_has ls 2 [(0, .ref a0), (1, .int p1)] := hl
  have C0 : cfx p s m _ meth c cX3_tallied (some .int) wsX3_tallied RX3 2 A (dC, dI) (kT cyB cyI cyJ cyP) := ⟨hx, hb, hr, hts, hown, hlocks, hml, hA, hK, hNw⟩
  clear hAe
  obtain ⟨H, hH⟩ : ∃ H, H = s.heap := ⟨_, rfl⟩
  rw [← hH] at hP ⊢
  have hS : va_S A s.heap H [] := by rw [hH]; exact va_S.rf
  have hS := hS
  refine lv_iload_n hx hb (qaa qhF 0 rfl) rfl (lv_at hl 1 rfl) ?_
  refine lv_iconst (v := 0) hx hb (qaa qhF 1 rfl) (by decide) ?_
  refine lv_bipush (v := 6) hx hb (qaa qhF 2 rfl) (by decide) ?_
  obtain ⟨hCc, hPc, hDc, hFc⟩ := qac (ws' := []) hP hD hS hA [] (by decide +kernel) rfl
  refine va_calli (va_runSN (As := [.int p1, .int 0, .int 6]) (rest := []) ⟨hx, hb, hml, hown, hts⟩ (qzC l dC dI cyB cyI cyJ cyP H.size p1 0 6 hw) ⟨(va_cnB 3 hts gX3_tallied_X10_within_n106 rfl rfl rfl (qbmp hNw) (hts _ q0C) (by decide +kernel) ⟨nbq rfl, nbq rfl⟩), (hts _ qRB), trivial⟩ ⟨qab, qae hPc hK hDc hNw⟩ rfl rfl hl.1 rfl (lv_room (nbq rfl)) (qaa qhF 3 rfl) ⟨nbq rfl, nbq rfl⟩) hS (fun q _ h => hFc q h) hFc (fun r1 u t H1 locs ht hvm hw hB hz1 hk1 hS => ?_)
  obtain ⟨hP1, hK1, hD1⟩ := hB
  rw [ht] at hP1
  obtain ⟨hP, hD⟩ := qah (wr := (qRa a0 jmf jpq jlU jlj ja4 ja0 jaO jmb jmc jkn jjZ jlj cyI jly)) (w1 := []) (wn := (qRa a0 jmf jpq jlU jlj ja4 ja0 jaO jmb jmc jkn jjZ jlj cyI jly)) hP hD [] [0, 1] hCc rfl (by decide +kernel) (by decide +kernel) rfl hk1 hFc hP1 hD1
  generalize H1 = H at hP hS ⊢
  refine lv_if_ne (tgt := 12) hx hb (qaa qhF 4 rfl) (by decide) (fun c2 => ?_) (fun c2 => ?_)
  · have hw := hw.1 c2
    refine lv_aload_n hx hb (qaa qhF 7 rfl) rfl (lv_at hl 0 rfl) ?_
    refine va_get (D := (dC, dI)) (ci := 3) (v := .ref jlj) (C := RX3) (T := TX3) (N := 11) hx hb hts qZG hown hK hP 0 rfl rfl 3 (by decide) (hts _ qVy) (fun _ h9 => h9) rfl (qaa qhF 8 rfl) ?_
    refine lv_iload_n hx hb (qaa qhF 9 rfl) rfl (lv_at hl 1 rfl) ?_
    refine lv_dup2_11 hx hb (qaa qhF 10 rfl) rfl rfl ?_
    obtain ⟨hi9, hw⟩ := hw
    refine va_iald hx hb hK hP 1 1 rfl rfl hi9 (qaa qhF 11 rfl) ?_
    refine lv_topi (fun x3 ex3 => ?_)
    have hw := hw x3 ex3
    refine lv_iconst (v := 1) hx hb (qaa qhF 12 rfl) (by decide) ?_
    refine lv_iadd hx hb (qaa qhF 13 rfl) ?_
    refine lv_topi (fun x4 ex4 => ?_)
    have hw := hw x4 ex4
    obtain ⟨hi9, hw⟩ := hw
    refine va_iast hx hb hK hP hD hS 1 1 rfl rfl hi9 (qaa qhF 14 rfl) (fun H locs hP hD hS => ?_)
    obtain ⟨f5, ef5⟩ : ∃ y : NI, y = upd jly p1.toNatClampNeg x4 := ⟨_, rfl⟩
    have hw := hw f5 ef5
    have hP : va_P (dC, dI) vwCl (qRa a0 jmf jpq jlU jlj ja4 ja0 jaO jmb jmc jkn jjZ jlj cyI f5) H := by rw [ef5]; exact hP
    have hD : va_D A (qRa a0 jmf jpq jlU jlj ja4 ja0 jaO jmb jmc jkn jjZ jlj cyI f5) := by rw [ef5]; exact hD
    refine lv_aload_n hx hb (qaa qhF 15 rfl) rfl (lv_at hl 0 rfl) ?_
    refine va_get (D := (dC, dI)) (ci := 3) (v := .ref jlj) (C := RX3) (T := TX3) (N := 11) hx hb hts qZG hown hK hP 0 rfl rfl 3 (by decide) (hts _ qVy) (fun _ h9 => h9) rfl (qaa qEJ 0 rfl) ?_
    refine lv_iload_n hx hb (qaa qEJ 1 rfl) rfl (lv_at hl 1 rfl) ?_
    obtain ⟨hi9, hw⟩ := hw
    refine va_iald hx hb hK hP 1 1 rfl rfl hi9 (qaa qEJ 2 rfl) ?_
    refine lv_topi (fun x6 ex6 => ?_)
    have hw := hw x6 ex6
    exact ((W.iret (v := x6) hx hb hr (fun t ht hW => ⟨⟨x6, (f5), rfl, hw, by rw [ht]; exact hP, va_K.moved hW.alike hK, hD⟩, hS.F ht⟩) hS.2.2 (qaa qEJ 3 rfl)))
  · have hw := hw.2 c2
    refine lv_iconst (v := 0) hx hb (qaa qhF 5 rfl) (by decide) ?_
    exact ((W.iret (v := 0) hx hb hr (fun t ht hW => ⟨⟨0, (jly), rfl, hw, by rw [ht]; exact hP, va_K.moved hW.alike hK, hD⟩, hS.F ht⟩) hS.2.2 (qaa qhF 6 rfl)))
theorem qES : ∀ w ∈ u_ws RX3 TX3 11, w ∈ wsX3_worstAt := uiM qoz euX3 (by decide +kernel)
theorem qai2 : (.fieldLink RX3 18 "MarchHares$Fitting" "fittingForms" "[I" : Cond) ∈ wsX3_worstAt := qoz 392 (by decide +kernel)
theorem qaj5 : (.fieldLink RX3 21 "MarchHares$Fitting" "tally" "[I" : Cond) ∈ wsX3_worstAt := qoz 393 (by decide +kernel)
theorem qajJ : (.fieldLink RX3 36 "MarchHares$Fitting" "hares" "I" : Cond) ∈ wsX3_worstAt := qoz 3468 (by decide +kernel)
theorem qal8 : (.fieldLink RX3 40 "MarchHares$Fitting" "forms" "I" : Cond) ∈ wsX3_worstAt := qoz 3470 (by decide +kernel)
theorem q2N : (.initialized RX10 : Cond) ∈ wsX3_worstAt := qoz 2 (by decide +kernel)
theorem qaeE : (.initialized "java/lang/Math" : Cond) ∈ wsX3_worstAt := qoz 651 (by decide +kernel)
theorem qagt : (.methodLink RX3 100 Lib.Math.max.name : Cond) ∈ wsX3_worstAt := qoz 3606 (by decide +kernel)
theorem q9D : (.code Lib.Math.max.name Lib.Math.max.code 2 (some .int) : Cond) ∈ wsX3_worstAt := qoz 1931 (by decide +kernel)
theorem qacl : (.static Lib.Math.max.name : Cond) ∈ wsX3_worstAt := qoz 1930 (by decide +kernel)
theorem qUe : (.static yX10_holds : Cond) ∈ wsX3_worstAt := qoz 2052 (by decide +kernel)
set_option maxHeartbeats 4000000 in
set_option maxRecDepth 100000 in
theorem qZE {p : Program} {l : Launch} {e : Env} {s : State} {m : MethodId} {args : Array Value} {below : List Frame} {meth : Method} {c : Code} {A : Nat → Prop} (dC : Nat → ClassId) (dI : Nat → Nat → Nat) (cyB cyI cyJ cyP : ClassId) (a0 jlj jhn jhY ji2 : Nat) (jaO jmb jmc jkn jjZ : Value) (jaC jaN : Int32) (jim jiL jjH : NI) (Q : Int32 → NI → Prop) (K25 : NI → Int32 → Int32 → Int32 → Prop) (K36 : NI → Int32 → Int32 → Int32 → Int32 → Prop) (hK25 : ∀ (H : Heap) (locs : List Loc) (ls : Array Slot) (jly : NI) (l1 l2 l3 : Int32), va_P (dC, dI) vwCl (qpO a0 jhY ji2 jhn jlj jaC jaN jaO jmb jmc jkn jjZ jlj cyI jly jhn cyI jim jhY cyI jiL ji2 cyI jjH) H → va_D A (qpO a0 jhY ji2 jhn jlj jaC jaN jaO jmb jmc jkn jjZ jlj cyI jly jhn cyI jim jhY cyI jiL ji2 cyI jjH) → va_S A s.heap H locs → lv_has ls 5 [(0, .ref a0), (1, .int l1), (2, .int l2), (3, .int l3)] → K25 jly l1 l2 l3 → W p l e (headSpec wsX3_worstAt ({ frames := 2, cells := 0, slots := 0, locals := 43 })).room s m args below meth c H locs 0 0 (MQ below (va_Qi (fun (r : Int32) (u : NI) => Q r u) (cB (dC, dI) (kT cyB cyI cyJ cyP) A (fun u : NI => ((qpO a0 jhY ji2 jhn jlj jaC jaN jaO jmb jmc jkn jjZ jlj cyI u jhn cyI jim jhY cyI jiL ji2 cyI jjH) : va_W))) A) args s 0 0 A) (F0 m 25 ls [])) (hK36 : ∀ (H : Heap) (locs : List Loc) (ls : Array Slot) (jly : NI) (l1 l2 l3 l4 : Int32), va_P (dC, dI) vwCl (qpO a0 jhY ji2 jhn jlj jaC jaN jaO jmb jmc jkn jjZ jlj cyI jly jhn cyI jim jhY cyI jiL ji2 cyI jjH) H → va_D A (qpO a0 jhY ji2 jhn jlj jaC jaN jaO jmb jmc jkn jjZ jlj cyI jly jhn cyI jim jhY cyI jiL ji2 cyI jjH) → va_S A s.heap H locs → lv_has ls 5 [(0, .ref a0), (1, .int l1), (2, .int l2), (3, .int l3), (4, .int l4)] → K36 jly l1 l2 l3 l4 → W p l e (headSpec wsX3_worstAt ({ frames := 2, cells := 0, slots := 0, locals := 43 })).room s m args below meth c H locs 0 0 (MQ below (va_Qi (fun (r : Int32) (u : NI) => Q r u) (cB (dC, dI) (kT cyB cyI cyJ cyP) A (fun u : NI => ((qpO a0 jhY ji2 jhn jlj jaC jaN jaO jmb jmc jkn jjZ jlj cyI u jhn cyI jim jhY cyI jiL ji2 cyI jjH) : va_W))) A) args s 0 0 A) (F0 m 36 ls [])) (C0 : cfx p s m args meth c cX3_worstAt (some .int) wsX3_worstAt RX3 5 A (dC, dI) (kT cyB cyI cyJ cyP)) : ∀ (H : Heap) (locs : List Loc) (ls : Array Slot) (jly : NI) (l1 l2 l3 l4 : Int32), va_P (dC, dI) vwCl (qpO a0 jhY ji2 jhn jlj jaC jaN jaO jmb jmc jkn jjZ jlj cyI jly jhn cyI jim jhY cyI jiL ji2 cyI jjH) H → va_D A (qpO a0 jhY ji2 jhn jlj jaC jaN jaO jmb jmc jkn jjZ jlj cyI jly jhn cyI jim jhY cyI jiL ji2 cyI jjH) → va_S A s.heap H locs → lv_has ls 5 [(0, .ref a0), (1, .int l1), (2, .int l2), (3, .int l3), (4, .int l4)] → qM4 jaC jaN jim jiL jjH Q K25 K36 jly l1 l2 l3 l4 → W p l e (headSpec wsX3_worstAt ({ frames := 2, cells := 0, slots := 0, locals := 43 })).room s m args below meth c H locs 0 0 (MQ below (va_Qi (fun (r : Int32) (u : NI) => Q r u) (cB (dC, dI) (kT cyB cyI cyJ cyP) A (fun u : NI => ((qpO a0 jhY ji2 jhn jlj jaC jaN jaO jmb jmc jkn jjZ jlj cyI u jhn cyI jim jhY cyI jiL ji2 cyI jjH) : va_W))) A) args s 0 0 A) (F0 m 76 ls []) := by
  obtain ⟨hx, hb, hr, hts, hown, hlocks, hml, hA, hK, hNw⟩ := id C0
  intro H locs ls jly l1 l2 l3 l4 hP hD hS hl hw
  obtain ⟨x14, ex14⟩ : ∃ y : Int32, y = l4 + 1 := ⟨_, rfl⟩
  have hw := hw x14 ex14
  refine lv_iinc (v := x14) (lv' := [(4, .int x14), (0, .ref a0), (1, .int l1), (2, .int l2), (3, .int l3)]) hx hb (qaa qfO 11 rfl) hl (k := 4) rfl (by rw [ex14]; rfl) (by decide) rfl (fun ls hl => ?_)
  refine lv_goto (tgt := 36) hx hb (qaa qfO 12 rfl) (by decide) ?_
  exact hK36 _ _ _ jly l1 l2 l3 x14 hP hD hS (lv_sub hl [1, 2, 3, 4, 0] rfl) hw
set_option maxHeartbeats 4000000 in
set_option maxRecDepth 100000 in
theorem qatJ {p : Program} {l : Launch} {e : Env} {s : State} {m : MethodId} {args : Array Value} {below : List Frame} {meth : Method} {c : Code} {A : Nat → Prop} (dC : Nat → ClassId) (dI : Nat → Nat → Nat) (cyB cyI cyJ cyP : ClassId) (a0 jlj jhn jhY ji2 : Nat) (jaO jmb jmc jkn jjZ : Value) (jaC jaN : Int32) (jim jiL jjH : NI) (Q : Int32 → NI → Prop) (K25 : NI → Int32 → Int32 → Int32 → Prop) (hK25 : ∀ (H : Heap) (locs : List Loc) (ls : Array Slot) (jly : NI) (l1 l2 l3 : Int32), va_P (dC, dI) vwCl (qpO a0 jhY ji2 jhn jlj jaC jaN jaO jmb jmc jkn jjZ jlj cyI jly jhn cyI jim jhY cyI jiL ji2 cyI jjH) H → va_D A (qpO a0 jhY ji2 jhn jlj jaC jaN jaO jmb jmc jkn jjZ jlj cyI jly jhn cyI jim jhY cyI jiL ji2 cyI jjH) → va_S A s.heap H locs → lv_has ls 5 [(0, .ref a0), (1, .int l1), (2, .int l2), (3, .int l3)] → K25 jly l1 l2 l3 → W p l e (headSpec wsX3_worstAt ({ frames := 2, cells := 0, slots := 0, locals := 43 })).room s m args below meth c H locs 0 0 (MQ below (va_Qi (fun (r : Int32) (u : NI) => Q r u) (cB (dC, dI) (kT cyB cyI cyJ cyP) A (fun u : NI => ((qpO a0 jhY ji2 jhn jlj jaC jaN jaO jmb jmc jkn jjZ jlj cyI u jhn cyI jim jhY cyI jiL ji2 cyI jjH) : va_W))) A) args s 0 0 A) (F0 m 25 ls [])) (C0 : cfx p s m args meth c cX3_worstAt (some .int) wsX3_worstAt RX3 5 A (dC, dI) (kT cyB cyI cyJ cyP)) : ∀ (n : Nat) (H : Heap) (locs : List Loc) (ls : Array Slot) (jly : NI) (l1 l2 l3 l4 : Int32), va_P (dC, dI) vwCl (qpO a0 jhY ji2 jhn jlj jaC jaN jaO jmb jmc jkn jjZ jlj cyI jly jhn cyI jim jhY cyI jiL ji2 cyI jjH) H → va_D A (qpO a0 jhY ji2 jhn jlj jaC jaN jaO jmb jmc jkn jjZ jlj cyI jly jhn cyI jim jhY cyI jiL ji2 cyI jjH) → va_S A s.heap H locs → lv_has ls 5 [(0, .ref a0), (1, .int l1), (2, .int l2), (3, .int l3), (4, .int l4)] → quA jaC jaN jim jiL jjH Q K25 n jly l1 l2 l3 l4 → W p l e (headSpec wsX3_worstAt ({ frames := 2, cells := 0, slots := 0, locals := 43 })).room s m args below meth c H locs 0 0 (MQ below (va_Qi (fun (r : Int32) (u : NI) => Q r u) (cB (dC, dI) (kT cyB cyI cyJ cyP) A (fun u : NI => ((qpO a0 jhY ji2 jhn jlj jaC jaN jaO jmb jmc jkn jjZ jlj cyI u jhn cyI jim jhY cyI jiL ji2 cyI jjH) : va_W))) A) args s 0 0 A) (F0 m 36 ls []) := by
  obtain ⟨hx, hb, hr, hts, hown, hlocks, hml, hA, hK, hNw⟩ := id C0
  intro n
  induction n with
  | zero => intro H locs ls jly l1 l2 l3 l4 hP hD hS hl hw; exact False.elim hw
  | succ n ih =>
    intro H locs ls jly l1 l2 l3 l4 hP hD hS hl hw
    refine lv_iload hx hb (qaa qff 6 rfl) (lv_at hl 4 rfl) ?_
    refine lv_aload_n hx hb (qaa qff 7 rfl) rfl (lv_at hl 0 rfl) ?_
    refine va_get (D := (dC, dI)) (ci := 3) (v := .int jaN) (C := RX3) (T := TX3) (N := 11) hx hb hts qES hown hK hP 0 rfl rfl 5 (by decide) (hts _ qal8) (fun _ h9 => h9) rfl (qaa qff 8 rfl) ?_
    refine lv_icmp_ge (tgt := 82) hx hb (qaa qff 9 rfl) (by decide) (fun c5 => ?_) (fun c5 => ?_)
    · have hw := hw.1 c5
      obtain ⟨x6, ex6⟩ : ∃ y : Int32, y = l3 + 1 := ⟨_, rfl⟩
      have hw := hw x6 ex6
      refine lv_iinc (v := x6) (lv' := [(3, .int x6), (0, .ref a0), (1, .int l1), (2, .int l2), (4, .int l4)]) hx hb (qaa qfO 13 rfl) hl (k := 3) rfl (by rw [ex6]; rfl) (by decide) rfl (fun ls hl => ?_)
      refine lv_goto (tgt := 25) hx hb (qaa qfO 14 rfl) (by decide) ?_
      exact hK25 _ _ _ jly l1 l2 x6 hP hD hS (lv_sub hl [1, 2, 3, 0] rfl) hw
    · have hw := hw.2 c5
      refine lv_aload_n hx hb (qaa qff 10 rfl) rfl (lv_at hl 0 rfl) ?_
      refine va_get (D := (dC, dI)) (ci := 3) (v := .ref jhn) (C := RX3) (T := TX3) (N := 11) hx hb hts qES hown hK hP 0 rfl rfl 2 (by decide) (hts _ qai2) (fun _ h9 => h9) rfl (qaa qff 11 rfl) ?_
      refine lv_iload_n hx hb (qaa qff 12 rfl) rfl (lv_at hl 3 rfl) ?_
      obtain ⟨hi9, hw⟩ := hw
      refine va_iald hx hb hK hP 2 1 rfl rfl hi9 (qaa qff 13 rfl) ?_
      refine lv_topi (fun x7 ex7 => ?_)
      have hw := hw x7 ex7
      refine lv_iload hx hb (qaa qff 14 rfl) (lv_at hl 4 rfl) ?_
      obtain ⟨hCc, hPc, hDc, hFc⟩ := qac (ws' := []) hP hD hS hA [] (by decide +kernel) rfl
      refine va_calli (va_runSN (As := [.int x7, .int l4]) (rest := []) ⟨hx, hb, hml, hown, hts⟩ (qnv l dC dI cyB cyI cyJ cyP H.size x7 l4 hw) ⟨(va_cnB 2 hts gX3_worstAt_X10_holds_n94 rfl rfl rfl (qbm4 hNw) (hts _ q2N) (by decide +kernel) ⟨nbq rfl, nbq rfl⟩), (hts _ qUe), trivial⟩ ⟨qab, qae hPc hK hDc hNw⟩ rfl rfl hl.1 rfl (lv_room (nbq rfl)) (qaa qff 15 rfl) ⟨nbq rfl, nbq rfl⟩) hS (fun q _ h => hFc q h) hFc (fun r8 u t H1 locs ht hvm hw hB hz1 hk1 hS => ?_)
      obtain ⟨hP1, hK1, hD1⟩ := hB
      rw [ht] at hP1
      obtain ⟨hP, hD⟩ := qah (wr := (qpO a0 jhY ji2 jhn jlj jaC jaN jaO jmb jmc jkn jjZ jlj cyI jly jhn cyI jim jhY cyI jiL ji2 cyI jjH)) (w1 := []) (wn := (qpO a0 jhY ji2 jhn jlj jaC jaN jaO jmb jmc jkn jjZ jlj cyI jly jhn cyI jim jhY cyI jiL ji2 cyI jjH)) hP hD [] [0, 1, 2, 3, 4] hCc rfl (by decide +kernel) (by decide +kernel) rfl hk1 hFc hP1 hD1
      generalize H1 = H at hP hS ⊢
      refine lv_if_eq (tgt := 76) hx hb (qaa qfO 0 rfl) (by decide) (fun c9 => ?_) (fun c9 => ?_)
      · have hw := hw.1 c9
        exact qZE dC dI cyB cyI cyJ cyP a0 jlj jhn jhY ji2 jaO jmb jmc jkn jjZ jaC jaN jim jiL jjH Q K25 (quA jaC jaN jim jiL jjH Q K25 n) hK25 ih C0 _ _ _ jly l1 l2 l3 l4 hP hD hS (lv_sub hl [0, 1, 2, 3, 4] rfl) hw
      · have hw := hw.2 c9
        refine lv_iload_n hx hb (qaa qfO 1 rfl) rfl (lv_at hl 2 rfl) ?_
        refine lv_aload_n hx hb (qaa qfO 2 rfl) rfl (lv_at hl 0 rfl) ?_
        refine lv_aload_n hx hb (qaa qfO 3 rfl) rfl (lv_at hl 0 rfl) ?_
        refine lv_iload_n hx hb (qaa qfO 4 rfl) rfl (lv_at hl 1 rfl) ?_
        refine lv_iload_n hx hb (qaa qfO 5 rfl) rfl (lv_at hl 3 rfl) ?_
        refine lv_iload hx hb (qaa qfO 6 rfl) (lv_at hl 4 rfl) ?_
        obtain ⟨hCc, hPc, hDc, hFc⟩ := qac (ws' := (qbaq a0 jhY ji2 jhn jlj jaC jaN jaO jmb jmc jkn jjZ jhY cyI jiL ji2 cyI jjH)) hP hD hS hA [0, 3, 4] (by decide +kernel) rfl
        refine va_calli (va_runV (As := [.int l1, .int l3, .int l4]) (rest := [.ref a0, .int l2]) ⟨hx, hb, hml, hown, hts⟩ (qZa l dC dI cyB cyI cyJ cyP a0 jhY ji2 H.size (.ref jhn) (.ref jlj) (.int jaC) (.int jaN) (jaO) (jmb) (jmc) (jkn) (jjZ) jiL jjH l1 l3 l4 hw) (cwV 3 hts gX3_worstAt_X3_seatedThen rfl rfl rfl (by decide +kernel) ⟨nbq rfl, nbq rfl⟩) ⟨qab, va_recv (q := (RX3, TX3, 11)) hK hPc (ci := 3) (q0 := 0) rfl rfl, qae hPc hK hDc hNw⟩ rfl rfl hl.1 rfl (lv_room (nbq rfl)) (qaa qfO 7 rfl) ⟨nbq rfl, nbq rfl⟩) hS (fun q _ h => hFc q h) hFc (fun r10 u t H1 locs ht hvm hw hB hz1 hk1 hS => ?_)
        obtain ⟨hP1, hK1, hD1⟩ := hB
        rw [ht] at hP1
        obtain ⟨hP, hD⟩ := qad (wr := [(jlj, .inl (cyI, 7, .inl jly)), (jhn, .inl (cyI, 6, .inl jim))]) (w1 := (qbaq a0 jhY ji2 jhn jlj jaC jaN jaO jmb jmc jkn jjZ jhY cyI jiL ji2 cyI jjH)) (wn := (qpO a0 jhY ji2 jhn jlj jaC jaN jaO jmb jmc jkn jjZ jlj cyI jly jhn cyI jim jhY cyI jiL ji2 cyI jjH)) hP hD [0, 3, 4] [1, 2] [2, 0, 1, 3, 4] hCc rfl (by decide +kernel) (by decide +kernel) (by decide +kernel) rfl hk1 hFc hP1 hD1
        generalize H1 = H at hP hS ⊢
        obtain ⟨hCc, hPc, hDc, hFc⟩ := qac (ws' := (qa52 a0 jhY ji2 jhn jlj jaC jaN jaO jmb jmc jkn jjZ jlj cyI jly)) hP hD hS hA [0, 1] (by decide +kernel) rfl
        refine va_calli (va_runV (As := [.int r10]) (rest := [.int l2]) ⟨hx, hb, hml, hown, hts⟩ (qaOj l dC dI cyB cyI cyJ cyP a0 jlj H.size (.ref jhY) (.ref ji2) (.ref jhn) (.int jaC) (.int jaN) (jaO) (jmb) (jmc) (jkn) (jjZ) jly r10 hw) (cwV 1 hts gX3_worstAt_X3_tallied rfl rfl rfl (by decide +kernel) ⟨nbq rfl, nbq rfl⟩) ⟨qab, va_recv (q := (RX3, TX3, 11)) hK hPc (ci := 3) (q0 := 0) rfl rfl, qae hPc hK hDc hNw⟩ rfl rfl hl.1 rfl (lv_room (nbq rfl)) (qaa qfO 8 rfl) ⟨nbq rfl, nbq rfl⟩) hS (fun q _ h => hFc q h) hFc (fun r12 u t H1 locs ht hvm hw hB hz1 hk1 hS => ?_)
        obtain ⟨f11, rfl⟩ : ∃ z, z = u := ⟨_, rfl⟩
        obtain ⟨hP1, hK1, hD1⟩ := hB
        rw [ht] at hP1
        obtain ⟨hP, hD⟩ := qad (wr := [(jhn, .inl (cyI, 6, .inl jim)), (jhY, .inl (cyI, 8, .inl jiL)), (ji2, .inl (cyI, 6, .inl jjH))]) (w1 := (qa52 a0 jhY ji2 jhn jlj jaC jaN jaO jmb jmc jkn jjZ jlj cyI f11)) (wn := (qpO a0 jhY ji2 jhn jlj jaC jaN jaO jmb jmc jkn jjZ jlj cyI f11 jhn cyI jim jhY cyI jiL ji2 cyI jjH)) hP hD [0, 1] [2, 3, 4] [3, 4, 0, 1, 2] hCc rfl (by decide +kernel) (by decide +kernel) (by decide +kernel) rfl hk1 hFc hP1 hD1
        generalize H1 = H at hP hS ⊢
        refine va_mmax hx hb (by rw [hml]; exact hl.1.symm) hown (hts _ qagt) (hts _ qacl) (hts _ qaeE) (hts _ q9D) (nbq rfl) (nbq rfl) (nbq rfl) (nbq rfl) (qaa qfO 9 rfl) ?_
        refine lv_topi (fun x13 ex13 => ?_)
        have hw := hw x13 ex13
        refine lv_istore_n (lv' := [(2, .int x13), (0, .ref a0), (1, .int l1), (3, .int l3), (4, .int l4)]) hx hb (qaa qfO 10 rfl) rfl hl (by decide) rfl (fun ls hl => ?_)
        exact qZE dC dI cyB cyI cyJ cyP a0 jlj jhn jhY ji2 jaO jmb jmc jkn jjZ jaC jaN jim jiL jjH Q K25 (quA jaC jaN jim jiL jjH Q K25 n) hK25 ih C0 _ _ _ f11 l1 x13 l3 l4 hP hD hS (lv_sub hl [1, 2, 0, 3, 4] rfl) hw
set_option maxHeartbeats 4000000 in
set_option maxRecDepth 100000 in
theorem qauE {p : Program} {l : Launch} {e : Env} {s : State} {m : MethodId} {args : Array Value} {below : List Frame} {meth : Method} {c : Code} {A : Nat → Prop} (dC : Nat → ClassId) (dI : Nat → Nat → Nat) (cyB cyI cyJ cyP : ClassId) (a0 jlj jhn jhY ji2 : Nat) (jaO jmb jmc jkn jjZ : Value) (jaC jaN : Int32) (jim jiL jjH : NI) (Q : Int32 → NI → Prop) (C0 : cfx p s m args meth c cX3_worstAt (some .int) wsX3_worstAt RX3 5 A (dC, dI) (kT cyB cyI cyJ cyP)) : ∀ (n : Nat) (H : Heap) (locs : List Loc) (ls : Array Slot) (jly : NI) (l1 l2 l3 : Int32), va_P (dC, dI) vwCl (qpO a0 jhY ji2 jhn jlj jaC jaN jaO jmb jmc jkn jjZ jlj cyI jly jhn cyI jim jhY cyI jiL ji2 cyI jjH) H → va_D A (qpO a0 jhY ji2 jhn jlj jaC jaN jaO jmb jmc jkn jjZ jlj cyI jly jhn cyI jim jhY cyI jiL ji2 cyI jjH) → va_S A s.heap H locs → lv_has ls 5 [(0, .ref a0), (1, .int l1), (2, .int l2), (3, .int l3)] → qAf jaC jaN jim jiL jjH Q n jly l1 l2 l3 → W p l e (headSpec wsX3_worstAt ({ frames := 2, cells := 0, slots := 0, locals := 43 })).room s m args below meth c H locs 0 0 (MQ below (va_Qi (fun (r : Int32) (u : NI) => Q r u) (cB (dC, dI) (kT cyB cyI cyJ cyP) A (fun u : NI => ((qpO a0 jhY ji2 jhn jlj jaC jaN jaO jmb jmc jkn jjZ jlj cyI u jhn cyI jim jhY cyI jiL ji2 cyI jjH) : va_W))) A) args s 0 0 A) (F0 m 25 ls []) := by
  obtain ⟨hx, hb, hr, hts, hown, hlocks, hml, hA, hK, hNw⟩ := id C0
  intro n
  induction n with
  | zero => intro H locs ls jly l1 l2 l3 hP hD hS hl hw; exact False.elim hw
  | succ n ih =>
    intro H locs ls jly l1 l2 l3 hP hD hS hl hw
    refine lv_iload_n hx hb (qaa qff 0 rfl) rfl (lv_at hl 3 rfl) ?_
    refine lv_aload_n hx hb (qaa qff 1 rfl) rfl (lv_at hl 0 rfl) ?_
    refine va_get (D := (dC, dI)) (ci := 3) (v := .int jaC) (C := RX3) (T := TX3) (N := 11) hx hb hts qES hown hK hP 0 rfl rfl 4 (by decide) (hts _ qajJ) (fun _ h9 => h9) rfl (qaa qff 2 rfl) ?_
    refine lv_icmp_ge (tgt := 88) hx hb (qaa qff 3 rfl) (by decide) (fun c4 => ?_) (fun c4 => ?_)
    · have hw := hw.1 c4
      refine lv_iload_n hx hb (qaa qfO 15 rfl) rfl (lv_at hl 2 rfl) ?_
      exact ((W.iret (v := l2) hx hb hr (fun t ht hW => ⟨⟨l2, (jly), rfl, hw, by rw [ht]; exact hP, va_K.moved hW.alike hK, hD⟩, hS.F ht⟩) hS.2.2 (qaa qapk 0 rfl)))
    · have hw := hw.2 c4
      refine lv_iconst (v := 0) hx hb (qaa qff 4 rfl) (by decide) ?_
      refine lv_istore (lv' := [(4, .int 0), (0, .ref a0), (1, .int l1), (2, .int l2), (3, .int l3)]) hx hb (qaa qff 5 rfl) hl (by decide) rfl (fun ls hl => ?_)
      obtain ⟨n9, hw⟩ := hw
      exact qatJ dC dI cyB cyI cyJ cyP a0 jlj jhn jhY ji2 jaO jmb jmc jkn jjZ jaC jaN jim jiL jjH Q (qAf jaC jaN jim jiL jjH Q n) ih C0 n9 _ _ _ jly l1 l2 l3 0 hP hD hS (lv_sub hl [1, 2, 3, 4, 0] rfl) hw
set_option maxHeartbeats 4000000 in
set_option maxRecDepth 100000 in
theorem qaDl {p : Program} {l : Launch} {e : Env} {s : State} {m : MethodId} {args : Array Value} {below : List Frame} {meth : Method} {c : Code} {A : Nat → Prop} (dC : Nat → ClassId) (dI : Nat → Nat → Nat) (cyB cyI cyJ cyP : ClassId) (a0 jlj jhn jhY ji2 : Nat) (jaO jmb jmc jkn jjZ : Value) (jaC jaN : Int32) (jim jiL jjH : NI) (Q : Int32 → NI → Prop) (C0 : cfx p s m args meth c cX3_worstAt (some .int) wsX3_worstAt RX3 5 A (dC, dI) (kT cyB cyI cyJ cyP)) : ∀ (n : Nat) (H : Heap) (locs : List Loc) (ls : Array Slot) (jly : NI) (l1 l2 : Int32), va_P (dC, dI) vwCl (qpO a0 jhY ji2 jhn jlj jaC jaN jaO jmb jmc jkn jjZ jlj cyI jly jhn cyI jim jhY cyI jiL ji2 cyI jjH) H → va_D A (qpO a0 jhY ji2 jhn jlj jaC jaN jaO jmb jmc jkn jjZ jlj cyI jly jhn cyI jim jhY cyI jiL ji2 cyI jjH) → va_S A s.heap H locs → lv_has ls 5 [(0, .ref a0), (1, .int l1), (2, .int l2)] → qIN jaC jaN jim jiL jjH Q n jly l1 l2 → W p l e (headSpec wsX3_worstAt ({ frames := 2, cells := 0, slots := 0, locals := 43 })).room s m args below meth c H locs 0 0 (MQ below (va_Qi (fun (r : Int32) (u : NI) => Q r u) (cB (dC, dI) (kT cyB cyI cyJ cyP) A (fun u : NI => ((qpO a0 jhY ji2 jhn jlj jaC jaN jaO jmb jmc jkn jjZ jlj cyI u jhn cyI jim jhY cyI jiL ji2 cyI jjH) : va_W))) A) args s 0 0 A) (F0 m 2 ls []) := by
  obtain ⟨hx, hb, hr, hts, hown, hlocks, hml, hA, hK, hNw⟩ := id C0
  intro n
  induction n with
  | zero => intro H locs ls jly l1 l2 hP hD hS hl hw; exact False.elim hw
  | succ n ih =>
    intro H locs ls jly l1 l2 hP hD hS hl hw
    refine lv_iload_n hx hb (qaa qhX 2 rfl) rfl (lv_at hl 2 rfl) ?_
    refine lv_bipush (v := 6) hx hb (qaa qhX 3 rfl) (by decide) ?_
    refine lv_icmp_gt (tgt := 21) hx hb (qaa qhX 4 rfl) (by decide) (fun c1 => ?_) (fun c1 => ?_)
    · have hw := hw.1 c1
      refine lv_iconst (v := 0) hx hb (qaa qhX 12 rfl) (by decide) ?_
      refine lv_istore_n (lv' := [(2, .int 0), (0, .ref a0), (1, .int l1)]) hx hb (qaa qhX 13 rfl) rfl hl (by decide) rfl (fun ls hl => ?_)
      refine lv_iconst (v := 0) hx hb (qaa qhX 14 rfl) (by decide) ?_
      refine lv_istore_n (lv' := [(3, .int 0), (2, .int 0), (0, .ref a0), (1, .int l1)]) hx hb (qaa qhX 15 rfl) rfl hl (by decide) rfl (fun ls hl => ?_)
      obtain ⟨n9, hw⟩ := hw
      exact qauE dC dI cyB cyI cyJ cyP a0 jlj jhn jhY ji2 jaO jmb jmc jkn jjZ jaC jaN jim jiL jjH Q C0 n9 _ _ _ jly l1 0 0 hP hD hS (lv_sub hl [2, 3, 1, 0] rfl) hw
    · have hw := hw.2 c1
      refine lv_aload_n hx hb (qaa qhX 5 rfl) rfl (lv_at hl 0 rfl) ?_
      refine va_get (D := (dC, dI)) (ci := 3) (v := .ref jlj) (C := RX3) (T := TX3) (N := 11) hx hb hts qES hown hK hP 0 rfl rfl 3 (by decide) (hts _ qaj5) (fun _ h9 => h9) rfl (qaa qhX 6 rfl) ?_
      refine lv_iload_n hx hb (qaa qhX 7 rfl) rfl (lv_at hl 2 rfl) ?_
      refine lv_iconst (v := 0) hx hb (qaa qhX 8 rfl) (by decide) ?_
      obtain ⟨hi9, hw⟩ := hw
      refine va_iast hx hb hK hP hD hS 1 1 rfl rfl hi9 (qaa qhX 9 rfl) (fun H locs hP hD hS => ?_)
      obtain ⟨f2, ef2⟩ : ∃ y : NI, y = upd jly l2.toNatClampNeg 0 := ⟨_, rfl⟩
      have hw := hw f2 ef2
      have hP : va_P (dC, dI) vwCl (qpO a0 jhY ji2 jhn jlj jaC jaN jaO jmb jmc jkn jjZ jlj cyI f2 jhn cyI jim jhY cyI jiL ji2 cyI jjH) H := by rw [ef2]; exact hP
      have hD : va_D A (qpO a0 jhY ji2 jhn jlj jaC jaN jaO jmb jmc jkn jjZ jlj cyI f2 jhn cyI jim jhY cyI jiL ji2 cyI jjH) := by rw [ef2]; exact hD
      obtain ⟨x3, ex3⟩ : ∃ y : Int32, y = l2 + 1 := ⟨_, rfl⟩
      have hw := hw x3 ex3
      refine lv_iinc (v := x3) (lv' := [(2, .int x3), (0, .ref a0), (1, .int l1)]) hx hb (qaa qhX 10 rfl) hl (k := 2) rfl (by rw [ex3]; rfl) (by decide) rfl (fun ls hl => ?_)
      refine lv_goto (tgt := 2) hx hb (qaa qhX 11 rfl) (by decide) ?_
      exact ih _ _ _ f2 l1 x3 hP hD hS (lv_sub hl [1, 2, 0] rfl) hw
set_option maxHeartbeats 4000000 in
set_option maxRecDepth 100000 in
theorem qaPL (l : Launch) (dC : Nat → ClassId) (dI : Nat → Nat → Nat) (cyB cyI cyJ cyP : ClassId) (a0 jlj jhn jhY ji2 sz : Nat) (jaO jmb jmc jkn jjZ : Value) (jaC jaN : Int32) (jim jiL jjH jly : NI) (p1 : Int32) {Q : Int32 → NI → Prop} (hw : qXB jaC jaN jim jiL jjH jly p1 Q) : Met l yX3_worstAt wsX3_worstAt ({ frames := 2, cells := 0, slots := 0, locals := 43 }) (va_Pc [.ref a0, .int p1] (cPc (dC, dI) (kT cyB cyI cyJ cyP) (qpO a0 jhY ji2 jhn jlj jaC jaN jaO jmb jmc jkn jjZ jlj cyI jly jhn cyI jim jhY cyI jiL ji2 cyI jjH) sz)) (va_Qi (fun (r : Int32) (u : NI) => Q r u) (cB (dC, dI) (kT cyB cyI cyJ cyP) (va_A (qpO a0 jhY ji2 jhn jlj jaC jaN jaO jmb jmc jkn jjZ jlj cyI jly jhn cyI jim jhY cyI jiL ji2 cyI jjH) sz) (fun u : NI => ((qpO a0 jhY ji2 jhn jlj jaC jaN jaO jmb jmc jkn jjZ jlj cyI u jhn cyI jim jhY cyI jiL ji2 cyI jjH) : va_W))) (va_A (qpO a0 jhY ji2 jhn jlj jaC jaN jaO jmb jmc jkn jjZ jlj cyI jly jhn cyI jim jhY cyI jiL ji2 cyI jjH) sz)) 0 0 (va_A (qpO a0 jhY ji2 jhn jlj jaC jaN jaO jmb jmc jkn jjZ jlj cyI jly jhn cyI jim jhY cyI jiL ji2 cyI jjH) sz) := by
  refine Met.ofW (cc := cX3_worstAt) (maxL := 5) (ret := (some .int)) (by decide) rfl ?_
  intro p e s m args below meth c s₁ B hml hv
  obtain ⟨rfl, hsz, hP, hK, hD0, hNw⟩ := hv
  have hx := B.exec
  have hb := B.bytes
  have hr := B.returns
  have hts := atoms_spec (ws := wsX3_worstAt) B.pre
  have hown : s.vm.findClass RX3 = some m.cls := findClass_of_methodNamed B.named
  have hlocks := B.notSynchronized
  subst hsz
  have hD := hD0.self (sz := s.heap.size)
  generalize hAe : va_A (qpO a0 jhY ji2 jhn jlj jaC jaN jaO jmb jmc jkn jjZ jlj cyI jly jhn cyI jim jhY cyI jiL ji2 cyI jjH) s.heap.size = A at hD ⊢
  have hA : ∀ q : Nat, s.heap.size ≤ q → A q := fun q h => by rw [← hAe]; exact Or.inr h
  have hS : va_S A s.heap s.heap [] := va_S.rf
  have hP : va_P (dC, dI) vwCl (qpO a0 jhY ji2 jhn jlj jaC jaN jaO jmb jmc jkn jjZ jlj cyI jly jhn cyI jim jhY cyI jiL ji2 cyI jjH) s.heap := hP
  have hl := lv_entry ([.ref a0, .int p1]) (n := 5) (nbq rfl)
  rw [lg_entry_eq]
  generalize (lg_sl ([.ref a0, .int p1]) ++ List.replicate (5 - (lg_sl ([.ref a0, .int p1])).length) Slot.unset).toArray = ls at hl ⊢
  have hl : lv_has ls 5 [(0, .ref a0), (1, .int p1)] := hl
  have C0 : cfx p s m _ meth c cX3_worstAt (some .int) wsX3_worstAt RX3 5 A (dC, dI) (kT cyB cyI cyJ cyP) := ⟨hx, hb, hr, hts, hown, hlocks, hml, hA, hK, hNw⟩
  clear hAe
  obtain ⟨H, hH⟩ : ∃ H, H = s.heap := ⟨_, rfl⟩
  rw [← hH] at hP ⊢
  have hS : va_S A s.heap H [] := by rw [hH]; exact va_S.rf
  have hS := hS
  refine lv_iconst (v := 0) hx hb (qaa qhX 0 rfl) (by decide) ?_
  refine lv_istore_n (lv' := [(2, .int 0), (0, .ref a0), (1, .int p1)]) hx hb (qaa qhX 1 rfl) rfl hl (by decide) rfl (fun ls hl => ?_)
  obtain ⟨n9, hw⟩ := hw
  exact qaDl dC dI cyB cyI cyJ cyP a0 jlj jhn jhY ji2 jaO jmb jmc jkn jjZ jaC jaN jim jiL jjH Q C0 n9 _ _ _ jly p1 0 hP hD hS (lv_sub hl [1, 2, 0] rfl) hw
