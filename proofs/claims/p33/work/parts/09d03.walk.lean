/-- worlds by their leaves -/
def qvq (x0 x1 x2 x3 x4 : Nat) (x5 x6 : Int32) (x7 : Nat) (x8 x9 : Value) (x10 x11 : Int32) (x12 x13 : Nat) (x14 : Value) (x15 : Nat) (x16 : ClassId) (x17 : NI) (x18 : Nat) (x19 : ClassId) (x20 : NI) (x21 : Nat) (x22 : ClassId) (x23 : NI) (x24 : Nat) (x25 : ClassId) (x26 : NI) (x27 : Nat) (x28 : ClassId) (x29 : NI) : va_W := [(x0, .inr (3, [.ref x1, .ref x2, .ref x3, .ref x4, .int x5, .int x6, .ref x7, x8, x9, .int x10, .int x11])), (x12, .inr (0, [.ref x13, x14])), (x15, .inl (x16, 8, .inl x17)), (x18, .inl (x19, 7, .inl x20)), (x21, .inl (x22, 6, .inl x23)), (x24, .inl (x25, 8, .inl x26)), (x27, .inl (x28, 6, .inl x29))]
def qbaW (x0 x1 : Nat) (x2 : Value) (x3 : Nat) (x4 : ClassId) (x5 : NI) : va_W := [(x0, .inr (0, [.ref x1, x2])), (x3, .inl (x4, 8, .inl x5))]
def qa4F (x0 x1 x2 x3 x4 : Nat) (x5 x6 : Int32) (x7 : Nat) (x8 x9 : Value) (x10 x11 : Int32) (x12 : Nat) (x13 : ClassId) (x14 : NI) (x15 : Nat) (x16 : ClassId) (x17 : NI) (x18 : Nat) (x19 : ClassId) (x20 : NI) (x21 : Nat) (x22 : ClassId) (x23 : NI) : va_W := [(x0, .inr (3, [.ref x1, .ref x2, .ref x3, .ref x4, .int x5, .int x6, .ref x7, x8, x9, .int x10, .int x11])), (x12, .inl (x13, 7, .inl x14)), (x15, .inl (x16, 6, .inl x17)), (x18, .inl (x19, 8, .inl x20)), (x21, .inl (x22, 6, .inl x23))]
def q0c (x0 : Nat) (x1 x2 x3 x4 x5 : Value) (x6 : Nat) (x7 x8 : Value) (x9 : Nat) (x10 x11 x12 x13 x14 : Value) (x15 : Nat) (x16 x17 x18 : Value) (x19 : Int32) (x20 x21 x22 x23 x24 : Nat) (x25 x26 : Int32) (x27 : Value) (x28 x29 x30 x31 : Int32) (x32 x33 : Nat) (x34 : Value) (x35 : Nat) (x36 : Value) (x37 : Nat) (x38 x39 x40 x41 x42 x43 x44 x45 : Value) (x46 x47 : Int32) (x48 x49 : Value) (x50 : Nat) (x51 : ClassId) (x52 : NI) (x53 : Nat) (x54 : ClassId) (x55 : NI) (x56 : Nat) (x57 : ClassId) (x58 : NI) (x59 x60 : Nat) (x61 : Value) (x62 : Nat) (x63 : ClassId) (x64 : NI) (x65 : Nat) (x66 : ClassId) (x67 : NI) (x68 : Nat) (x69 : ClassId) (x70 : NI) : va_W := [(x0, .inr (10, [x1, x2, x3, x4, x5, .ref x6, x7, x8, .ref x9, x10, x11, x12, x13, x14, .ref x15, x16, x17, x18, .int x19])), (x20, .inr (3, [.ref x21, .ref x22, .ref x23, .ref x24, .int x25, .int x26, x27, .int x28, .int x29, .int x30, .int x31])), (x32, .inr (1, [.ref x33, x34, .ref x35, x36])), (x37, .inr (2, [x38, x39, x40, x41, x42, x43, x44, x45, .int x46, .int x47, x48, x49])), (x50, .inl (x51, 64, .inl x52)), (x53, .inl (x54, 8, .inl x55)), (x56, .inl (x57, 6, .inl x58)), (x59, .inr (0, [.ref x60, x61])), (x62, .inl (x63, 8, .inl x64)), (x65, .inl (x66, 6, .inl x67)), (x68, .inl (x69, 7, .inl x70))]
def qa7p (x0 : Nat) (x1 x2 x3 x4 x5 : Value) (x6 : Nat) (x7 x8 : Value) (x9 : Nat) (x10 x11 x12 x13 x14 : Value) (x15 : Nat) (x16 x17 x18 : Value) (x19 : Int32) : va_W := [(x0, .inr (10, [x1, x2, x3, x4, x5, .ref x6, x7, x8, .ref x9, x10, x11, x12, x13, x14, .ref x15, x16, x17, x18, .int x19]))]
def qbdV (x0 x1 x2 x3 x4 : Nat) (x5 x6 : Int32) (x7 : Value) (x8 x9 x10 x11 : Int32) (x12 x13 : Nat) (x14 : Value) (x15 : Nat) (x16 : Value) (x17 : Nat) (x18 x19 x20 x21 x22 x23 x24 x25 : Value) (x26 x27 : Int32) (x28 x29 : Value) (x30 : Nat) (x31 : ClassId) (x32 : NI) (x33 : Nat) (x34 : ClassId) (x35 : NI) (x36 : Nat) (x37 : ClassId) (x38 : NI) (x39 x40 : Nat) (x41 : Value) (x42 : Nat) (x43 : ClassId) (x44 : NI) (x45 : Nat) (x46 : ClassId) (x47 : NI) (x48 : Nat) (x49 : ClassId) (x50 : NI) : va_W := [(x0, .inr (3, [.ref x1, .ref x2, .ref x3, .ref x4, .int x5, .int x6, x7, .int x8, .int x9, .int x10, .int x11])), (x12, .inr (1, [.ref x13, x14, .ref x15, x16])), (x17, .inr (2, [x18, x19, x20, x21, x22, x23, x24, x25, .int x26, .int x27, x28, x29])), (x30, .inl (x31, 64, .inl x32)), (x33, .inl (x34, 8, .inl x35)), (x36, .inl (x37, 6, .inl x38)), (x39, .inr (0, [.ref x40, x41])), (x42, .inl (x43, 8, .inl x44)), (x45, .inl (x46, 6, .inl x47)), (x48, .inl (x49, 7, .inl x50))]
def qbkD (x0 x1 x2 x3 x4 : Nat) (x5 x6 : Int32) (x7 : Value) (x8 x9 x10 x11 : Int32) (x12 x13 : Nat) (x14 : Value) (x15 : Nat) (x16 : Value) (x17 : Nat) (x18 x19 x20 x21 x22 x23 x24 x25 : Value) (x26 x27 : Int32) (x28 x29 : Value) (x30 : Nat) (x31 : ClassId) (x32 : NI) (x33 : Nat) (x34 : ClassId) (x35 : NI) (x36 : Nat) (x37 : ClassId) (x38 : NI) (x39 x40 : Nat) (x41 : Value) (x42 : Nat) (x43 : ClassId) (x44 : NI) (x45 : Nat) (x46 : ClassId) (x47 : NI) : va_W := [(x0, .inr (3, [.ref x1, .ref x2, .ref x3, .ref x4, .int x5, .int x6, x7, .int x8, .int x9, .int x10, .int x11])), (x12, .inr (1, [.ref x13, x14, .ref x15, x16])), (x17, .inr (2, [x18, x19, x20, x21, x22, x23, x24, x25, .int x26, .int x27, x28, x29])), (x30, .inl (x31, 64, .inl x32)), (x33, .inl (x34, 8, .inl x35)), (x36, .inl (x37, 6, .inl x38)), (x39, .inr (0, [.ref x40, x41])), (x42, .inl (x43, 8, .inl x44)), (x45, .inl (x46, 6, .inl x47))]
def qbdu (x0 : Nat) (x1 x2 x3 x4 x5 : Value) (x6 : Nat) (x7 x8 : Value) (x9 : Nat) (x10 x11 x12 x13 x14 : Value) (x15 : Nat) (x16 x17 x18 : Value) (x19 : Int32) (x20 x21 x22 x23 x24 : Nat) (x25 x26 : Int32) (x27 : Nat) (x28 x29 x30 x31 : Int32) (x32 x33 : Nat) (x34 : Value) (x35 : Nat) (x36 : Value) (x37 : Nat) (x38 x39 x40 x41 x42 x43 x44 x45 : Value) (x46 x47 : Int32) (x48 x49 : Value) (x50 : Nat) (x51 : ClassId) (x52 : NI) (x53 : Nat) (x54 : ClassId) (x55 : NI) (x56 : Nat) (x57 : ClassId) (x58 : NI) (x59 x60 : Nat) (x61 : Value) (x62 : Nat) (x63 : ClassId) (x64 : NI) (x65 : Nat) (x66 : ClassId) (x67 : NI) (x68 : Nat) (x69 : ClassId) (x70 : NI) : va_W := [(x0, .inr (10, [x1, x2, x3, x4, x5, .ref x6, x7, x8, .ref x9, x10, x11, x12, x13, x14, .ref x15, x16, x17, x18, .int x19])), (x20, .inr (3, [.ref x21, .ref x22, .ref x23, .ref x24, .int x25, .int x26, .ref x27, .int x28, .int x29, .int x30, .int x31])), (x32, .inr (1, [.ref x33, x34, .ref x35, x36])), (x37, .inr (2, [x38, x39, x40, x41, x42, x43, x44, x45, .int x46, .int x47, x48, x49])), (x50, .inl (x51, 64, .inl x52)), (x53, .inl (x54, 8, .inl x55)), (x56, .inl (x57, 6, .inl x58)), (x59, .inr (0, [.ref x60, x61])), (x62, .inl (x63, 8, .inl x64)), (x65, .inl (x66, 6, .inl x67)), (x68, .inl (x69, 7, .inl x70))]
def qbc7 (x0 x1 x2 x3 x4 : Nat) (x5 x6 : Int32) (x7 : Nat) (x8 x9 x10 x11 : Int32) (x12 x13 : Nat) (x14 : Value) (x15 : Nat) (x16 : ClassId) (x17 : NI) (x18 : Nat) (x19 : ClassId) (x20 : NI) (x21 : Nat) (x22 : ClassId) (x23 : NI) (x24 : Nat) (x25 : ClassId) (x26 : NI) (x27 : Nat) (x28 : ClassId) (x29 : NI) : va_W := [(x0, .inr (3, [.ref x1, .ref x2, .ref x3, .ref x4, .int x5, .int x6, .ref x7, .int x8, .int x9, .int x10, .int x11])), (x12, .inr (0, [.ref x13, x14])), (x15, .inl (x16, 8, .inl x17)), (x18, .inl (x19, 7, .inl x20)), (x21, .inl (x22, 6, .inl x23)), (x24, .inl (x25, 8, .inl x26)), (x27, .inl (x28, 6, .inl x29))]
def qZp (x0 : Nat) (x1 : Value) (x2 : Nat) (x3 x4 x5 : Value) (x6 : Nat) (x7 x8 : Value) (x9 : Nat) (x10 x11 x12 x13 x14 : Value) (x15 : Nat) (x16 x17 x18 : Value) (x19 : Int32) (x20 x21 x22 x23 x24 : Nat) (x25 x26 : Int32) (x27 : Value) (x28 x29 x30 x31 : Int32) (x32 x33 : Nat) (x34 : Value) (x35 : Nat) (x36 : Value) (x37 : Nat) (x38 x39 x40 x41 x42 x43 x44 x45 : Value) (x46 x47 : Int32) (x48 x49 : Value) (x50 : Nat) (x51 : ClassId) (x52 : NI) (x53 : Nat) (x54 : ClassId) (x55 : NI) (x56 : Nat) (x57 : ClassId) (x58 : NI) (x59 x60 : Nat) (x61 : Value) (x62 : Nat) (x63 : ClassId) (x64 : NI) (x65 : Nat) (x66 : ClassId) (x67 : NI) (x68 : Nat) (x69 : ClassId) (x70 : NI) (x71 : Nat) (x72 : ClassId) (x73 : Nat) (x74 : Nat → Int64) : va_W := [(x0, .inr (10, [x1, .ref x2, x3, x4, x5, .ref x6, x7, x8, .ref x9, x10, x11, x12, x13, x14, .ref x15, x16, x17, x18, .int x19])), (x20, .inr (3, [.ref x21, .ref x22, .ref x23, .ref x24, .int x25, .int x26, x27, .int x28, .int x29, .int x30, .int x31])), (x32, .inr (1, [.ref x33, x34, .ref x35, x36])), (x37, .inr (2, [x38, x39, x40, x41, x42, x43, x44, x45, .int x46, .int x47, x48, x49])), (x50, .inl (x51, 64, .inl x52)), (x53, .inl (x54, 8, .inl x55)), (x56, .inl (x57, 6, .inl x58)), (x59, .inr (0, [.ref x60, x61])), (x62, .inl (x63, 8, .inl x64)), (x65, .inl (x66, 6, .inl x67)), (x68, .inl (x69, 7, .inl x70)), (x71, .inl (x72, x73, .inr (.inl x74)))]
def qaYo (x0 : Nat) (x1 : Value) (x2 : Nat) (x3 x4 x5 : Value) (x6 : Nat) (x7 x8 : Value) (x9 : Nat) (x10 x11 x12 x13 x14 : Value) (x15 : Nat) (x16 x17 x18 : Value) (x19 : Int32) (x20 x21 x22 x23 x24 : Nat) (x25 x26 : Int32) (x27 : Value) (x28 x29 x30 x31 : Int32) (x32 x33 : Nat) (x34 : Value) (x35 : Nat) (x36 : Value) (x37 : Nat) (x38 x39 x40 x41 x42 x43 x44 x45 : Value) (x46 x47 : Int32) (x48 x49 : Value) (x50 : Nat) (x51 : ClassId) (x52 : NI) (x53 : Nat) (x54 : ClassId) (x55 : NI) (x56 : Nat) (x57 : ClassId) (x58 : NI) (x59 x60 : Nat) (x61 : Value) (x62 : Nat) (x63 : ClassId) (x64 : NI) (x65 : Nat) (x66 : ClassId) (x67 : NI) (x68 : Nat) (x69 : ClassId) (x70 : NI) : va_W := [(x0, .inr (10, [x1, .ref x2, x3, x4, x5, .ref x6, x7, x8, .ref x9, x10, x11, x12, x13, x14, .ref x15, x16, x17, x18, .int x19])), (x20, .inr (3, [.ref x21, .ref x22, .ref x23, .ref x24, .int x25, .int x26, x27, .int x28, .int x29, .int x30, .int x31])), (x32, .inr (1, [.ref x33, x34, .ref x35, x36])), (x37, .inr (2, [x38, x39, x40, x41, x42, x43, x44, x45, .int x46, .int x47, x48, x49])), (x50, .inl (x51, 64, .inl x52)), (x53, .inl (x54, 8, .inl x55)), (x56, .inl (x57, 6, .inl x58)), (x59, .inr (0, [.ref x60, x61])), (x62, .inl (x63, 8, .inl x64)), (x65, .inl (x66, 6, .inl x67)), (x68, .inl (x69, 7, .inl x70))]
def qbQ (x0 x1 : Nat) (x2 x3 x4 : Value) (x5 : Nat) (x6 : ClassId) (x7 : NI) : va_W := [(x0, .inr (1, [.ref x1, x2, x3, x4])), (x5, .inl (x6, 64, .inl x7))]
def qPF (x0 x1 : Nat) (x2 : Value) (x3 x4 x5 : Nat) (x6 : ClassId) (x7 : NI) (x8 x9 x10 : Nat) (x11 x12 x13 x14 x15 x16 x17 : Value) (x18 : Int32) (x19 x20 : Value) (x21 : Nat) (x22 : ClassId) (x23 : NI) (x24 : Nat) (x25 : ClassId) (x26 : NI) (x27 x28 x29 x30 x31 : Nat) (x32 : Int32) (x33 : Nat) (x34 : ClassId) (x35 : NI) (x36 : Nat) (x37 : ClassId) (x38 : NI) (x39 : Nat) (x40 : ClassId) (x41 : NI) (x42 : Nat) (x43 : ClassId) (x44 : NI) : va_W := [(x0, .inr (1, [.ref x1, x2, .ref x3, .ref x4])), (x5, .inl (x6, 64, .inl x7)), (x8, .inr (2, [.ref x9, .ref x10, x11, x12, x13, x14, x15, x16, x17, .int x18, x19, x20])), (x21, .inl (x22, 8, .inl x23)), (x24, .inl (x25, 8, .inl x26)), (x27, .inr (4, [.ref x28, .ref x29, .ref x30, .ref x31, .int x32])), (x33, .inl (x34, 8, .inl x35)), (x36, .inl (x37, 150, .inl x38)), (x39, .inl (x40, 150, .inl x41)), (x42, .inl (x43, 150, .inl x44))]
def qGV (x0 x1 : Nat) (x2 : Value) (x3 x4 x5 : Nat) (x6 : ClassId) (x7 : NI) : va_W := [(x0, .inr (1, [.ref x1, x2, .ref x3, .ref x4])), (x5, .inl (x6, 64, .inl x7))]
def qp0 (x0 x1 : Nat) (x2 : Value) (x3 x4 x5 x6 x7 : Nat) (x8 x9 x10 : Value) (x11 : Nat) (x12 x13 : Value) (x14 x15 : Int32) (x16 : Value) (x17 : Int32) (x18 : Nat) (x19 : ClassId) (x20 : NI) (x21 : Nat) (x22 : ClassId) (x23 : NI) (x24 : Nat) (x25 : ClassId) (x26 : NI) (x27 x28 x29 x30 x31 : Nat) (x32 : Int32) (x33 : Nat) (x34 : ClassId) (x35 : NI) (x36 : Nat) (x37 : ClassId) (x38 : NI) (x39 : Nat) (x40 : ClassId) (x41 : NI) (x42 : Nat) (x43 : ClassId) (x44 : NI) (x45 : Nat) (x46 : ClassId) (x47 : NI) : va_W := [(x0, .inr (1, [.ref x1, x2, .ref x3, .ref x4])), (x5, .inr (2, [.ref x6, .ref x7, x8, x9, x10, .ref x11, x12, x13, .int x14, .int x15, x16, .int x17])), (x18, .inl (x19, 64, .inl x20)), (x21, .inl (x22, 8, .inl x23)), (x24, .inl (x25, 8, .inl x26)), (x27, .inr (4, [.ref x28, .ref x29, .ref x30, .ref x31, .int x32])), (x33, .inl (x34, 8, .inl x35)), (x36, .inl (x37, 150, .inl x38)), (x39, .inl (x40, 150, .inl x41)), (x42, .inl (x43, 150, .inl x44)), (x45, .inl (x46, 6, .inl x47))]
def qa7O (x0 x1 : Nat) (x2 : Value) (x3 x4 x5 x6 x7 : Nat) (x8 x9 x10 : Value) (x11 : Nat) (x12 x13 : Value) (x14 x15 : Int32) (x16 : Value) (x17 : Int32) (x18 : Nat) (x19 : ClassId) (x20 : NI) (x21 : Nat) (x22 : ClassId) (x23 : NI) : va_W := [(x0, .inr (1, [.ref x1, x2, .ref x3, .ref x4])), (x5, .inr (2, [.ref x6, .ref x7, x8, x9, x10, .ref x11, x12, x13, .int x14, .int x15, x16, .int x17])), (x18, .inl (x19, 64, .inl x20)), (x21, .inl (x22, 6, .inl x23))]
def qbao (x0 x1 : Nat) (x2 : Value) (x3 x4 x5 : Nat) (x6 : ClassId) (x7 : NI) (x8 x9 x10 : Nat) (x11 x12 x13 : Value) (x14 : Nat) (x15 x16 : Value) (x17 x18 : Int32) (x19 : Value) (x20 : Int32) (x21 : Nat) (x22 : ClassId) (x23 : NI) (x24 : Nat) (x25 : ClassId) (x26 : NI) (x27 x28 x29 x30 x31 : Nat) (x32 : Int32) (x33 : Nat) (x34 : ClassId) (x35 : NI) (x36 : Nat) (x37 : ClassId) (x38 : NI) (x39 : Nat) (x40 : ClassId) (x41 : NI) (x42 : Nat) (x43 : ClassId) (x44 : NI) : va_W := [(x0, .inr (1, [.ref x1, x2, .ref x3, .ref x4])), (x5, .inl (x6, 64, .inl x7)), (x8, .inr (2, [.ref x9, .ref x10, x11, x12, x13, .ref x14, x15, x16, .int x17, .int x18, x19, .int x20])), (x21, .inl (x22, 8, .inl x23)), (x24, .inl (x25, 8, .inl x26)), (x27, .inr (4, [.ref x28, .ref x29, .ref x30, .ref x31, .int x32])), (x33, .inl (x34, 8, .inl x35)), (x36, .inl (x37, 150, .inl x38)), (x39, .inl (x40, 150, .inl x41)), (x42, .inl (x43, 150, .inl x44))]
def qAT (x0 x1 : Nat) (x2 : Value) (x3 : Nat) (x4 : Value) (x5 : Nat) (x6 x7 x8 x9 x10 x11 x12 x13 x14 : Value) (x15 : Int32) (x16 x17 : Value) (x18 : Nat) (x19 : ClassId) (x20 : NI) : va_W := [(x0, .inr (1, [.ref x1, x2, .ref x3, x4])), (x5, .inr (2, [x6, x7, x8, x9, x10, x11, x12, x13, x14, .int x15, x16, x17])), (x18, .inl (x19, 64, .inl x20))]
def qaMq (x0 x1 : Nat) (x2 : Value) (x3 : Nat) (x4 : Value) (x5 : Nat) (x6 : ClassId) (x7 : NI) : va_W := [(x0, .inr (1, [.ref x1, x2, .ref x3, x4])), (x5, .inl (x6, 64, .inl x7))]
def qa7B (x0 : Nat) (x1 x2 x3 x4 x5 x6 x7 x8 x9 : Value) (x10 : Int32) (x11 x12 : Value) : va_W := [(x0, .inr (2, [x1, x2, x3, x4, x5, x6, x7, x8, x9, .int x10, x11, x12]))]
def qIG (x0 : Nat) (x1 x2 x3 x4 x5 x6 x7 x8 : Value) (x9 x10 : Nat) (x11 x12 x13 x14 x15 x16 x17 x18 : Value) (x19 : Int32) (x20 x21 : Nat) (x22 x23 x24 : Value) (x25 x26 : Nat) (x27 : Value) (x28 x29 x30 : Nat) (x31 : ClassId) (x32 : NI) (x33 : Nat) (x34 : ClassId) (x35 : NI) (x36 x37 x38 : Nat) (x39 x40 x41 : Value) (x42 : Nat) (x43 x44 : Value) (x45 x46 : Int32) (x47 : Value) (x48 : Int32) (x49 : Nat) (x50 : ClassId) (x51 : NI) (x52 : Nat) (x53 : ClassId) (x54 : NI) (x55 x56 x57 x58 x59 : Nat) (x60 : Int32) (x61 : Nat) (x62 : ClassId) (x63 : NI) (x64 : Nat) (x65 : ClassId) (x66 : NI) (x67 : Nat) (x68 : ClassId) (x69 : NI) (x70 : Nat) (x71 : ClassId) (x72 : NI) (x73 : Nat) (x74 : ClassId) (x75 : NI) : va_W := [(x0, .inr (10, [x1, x2, x3, x4, x5, x6, x7, x8, .ref x9, .ref x10, x11, x12, x13, x14, x15, x16, x17, x18, .int x19])), (x20, .inr (1, [.ref x21, x22, x23, x24])), (x25, .inr (1, [.ref x26, x27, .ref x28, .ref x29])), (x30, .inl (x31, 64, .inl x32)), (x33, .inl (x34, 64, .inl x35)), (x36, .inr (2, [.ref x37, .ref x38, x39, x40, x41, .ref x42, x43, x44, .int x45, .int x46, x47, .int x48])), (x49, .inl (x50, 8, .inl x51)), (x52, .inl (x53, 8, .inl x54)), (x55, .inr (4, [.ref x56, .ref x57, .ref x58, .ref x59, .int x60])), (x61, .inl (x62, 8, .inl x63)), (x64, .inl (x65, 150, .inl x66)), (x67, .inl (x68, 150, .inl x69)), (x70, .inl (x71, 150, .inl x72)), (x73, .inl (x74, 6, .inl x75))]
def qajI (x0 : Nat) (x1 x2 x3 x4 x5 x6 x7 x8 : Value) (x9 x10 : Nat) (x11 x12 x13 x14 x15 x16 x17 x18 : Value) (x19 : Int32) : va_W := [(x0, .inr (10, [x1, x2, x3, x4, x5, x6, x7, x8, .ref x9, .ref x10, x11, x12, x13, x14, x15, x16, x17, x18, .int x19]))]
def qaNQ (x0 x1 : Nat) (x2 x3 x4 : Value) (x5 x6 : Nat) (x7 : Value) (x8 x9 x10 : Nat) (x11 : ClassId) (x12 : NI) (x13 : Nat) (x14 : ClassId) (x15 : NI) (x16 x17 x18 : Nat) (x19 x20 x21 : Value) (x22 : Nat) (x23 x24 : Value) (x25 x26 : Int32) (x27 : Value) (x28 : Int32) (x29 : Nat) (x30 : ClassId) (x31 : NI) (x32 : Nat) (x33 : ClassId) (x34 : NI) (x35 x36 x37 x38 x39 : Nat) (x40 : Int32) (x41 : Nat) (x42 : ClassId) (x43 : NI) (x44 : Nat) (x45 : ClassId) (x46 : NI) (x47 : Nat) (x48 : ClassId) (x49 : NI) (x50 : Nat) (x51 : ClassId) (x52 : NI) (x53 : Nat) (x54 : ClassId) (x55 : NI) : va_W := [(x0, .inr (1, [.ref x1, x2, x3, x4])), (x5, .inr (1, [.ref x6, x7, .ref x8, .ref x9])), (x10, .inl (x11, 64, .inl x12)), (x13, .inl (x14, 64, .inl x15)), (x16, .inr (2, [.ref x17, .ref x18, x19, x20, x21, .ref x22, x23, x24, .int x25, .int x26, x27, .int x28])), (x29, .inl (x30, 8, .inl x31)), (x32, .inl (x33, 8, .inl x34)), (x35, .inr (4, [.ref x36, .ref x37, .ref x38, .ref x39, .int x40])), (x41, .inl (x42, 8, .inl x43)), (x44, .inl (x45, 150, .inl x46)), (x47, .inl (x48, 150, .inl x49)), (x50, .inl (x51, 150, .inl x52)), (x53, .inl (x54, 6, .inl x55))]
def qbhw (x0 x1 : Nat) (x2 x3 x4 : Value) (x5 x6 : Nat) (x7 : Value) (x8 x9 x10 : Nat) (x11 : ClassId) (x12 : NI) (x13 : Nat) (x14 : ClassId) (x15 : NI) : va_W := [(x0, .inr (1, [.ref x1, x2, x3, x4])), (x5, .inr (1, [.ref x6, x7, .ref x8, .ref x9])), (x10, .inl (x11, 64, .inl x12)), (x13, .inl (x14, 64, .inl x15))]
def qazm (x0 : Nat) (x1 x2 x3 x4 x5 x6 x7 x8 : Value) (x9 x10 : Nat) (x11 x12 x13 x14 x15 x16 x17 x18 : Value) (x19 : Int32) (x20 x21 : Nat) (x22 : Value) (x23 x24 x25 x26 : Nat) (x27 : Value) (x28 x29 x30 : Nat) (x31 : ClassId) (x32 : NI) (x33 : Nat) (x34 : ClassId) (x35 : NI) (x36 x37 x38 : Nat) (x39 x40 x41 : Value) (x42 : Nat) (x43 x44 : Value) (x45 x46 : Int32) (x47 : Value) (x48 : Int32) (x49 : Nat) (x50 : ClassId) (x51 : NI) (x52 : Nat) (x53 : ClassId) (x54 : NI) (x55 x56 x57 x58 x59 : Nat) (x60 : Int32) (x61 : Nat) (x62 : ClassId) (x63 : NI) (x64 : Nat) (x65 : ClassId) (x66 : NI) (x67 : Nat) (x68 : ClassId) (x69 : NI) (x70 : Nat) (x71 : ClassId) (x72 : NI) (x73 : Nat) (x74 : ClassId) (x75 : NI) : va_W := [(x0, .inr (10, [x1, x2, x3, x4, x5, x6, x7, x8, .ref x9, .ref x10, x11, x12, x13, x14, x15, x16, x17, x18, .int x19])), (x20, .inr (1, [.ref x21, x22, .ref x23, .ref x24])), (x25, .inr (1, [.ref x26, x27, .ref x28, .ref x29])), (x30, .inl (x31, 64, .inl x32)), (x33, .inl (x34, 64, .inl x35)), (x36, .inr (2, [.ref x37, .ref x38, x39, x40, x41, .ref x42, x43, x44, .int x45, .int x46, x47, .int x48])), (x49, .inl (x50, 8, .inl x51)), (x52, .inl (x53, 8, .inl x54)), (x55, .inr (4, [.ref x56, .ref x57, .ref x58, .ref x59, .int x60])), (x61, .inl (x62, 8, .inl x63)), (x64, .inl (x65, 150, .inl x66)), (x67, .inl (x68, 150, .inl x69)), (x70, .inl (x71, 150, .inl x72)), (x73, .inl (x74, 6, .inl x75))]
def qa59 (x0 : Nat) (x1 x2 x3 x4 x5 x6 x7 x8 : Value) (x9 x10 : Nat) (x11 x12 x13 x14 x15 x16 x17 x18 : Value) (x19 : Int32) (x20 x21 : Nat) (x22 : Value) (x23 x24 x25 : Nat) (x26 : ClassId) (x27 : NI) (x28 x29 x30 : Nat) (x31 x32 x33 : Value) (x34 : Nat) (x35 x36 : Value) (x37 x38 : Int32) (x39 : Value) (x40 : Int32) (x41 : Nat) (x42 : ClassId) (x43 : NI) (x44 : Nat) (x45 : ClassId) (x46 : NI) (x47 x48 x49 x50 x51 : Nat) (x52 : Int32) (x53 : Nat) (x54 : ClassId) (x55 : NI) (x56 : Nat) (x57 : ClassId) (x58 : NI) (x59 : Nat) (x60 : ClassId) (x61 : NI) (x62 : Nat) (x63 : ClassId) (x64 : NI) (x65 : Nat) (x66 : ClassId) (x67 : NI) : va_W := [(x0, .inr (10, [x1, x2, x3, x4, x5, x6, x7, x8, .ref x9, .ref x10, x11, x12, x13, x14, x15, x16, x17, x18, .int x19])), (x20, .inr (1, [.ref x21, x22, .ref x23, .ref x24])), (x25, .inl (x26, 64, .inl x27)), (x28, .inr (2, [.ref x29, .ref x30, x31, x32, x33, .ref x34, x35, x36, .int x37, .int x38, x39, .int x40])), (x41, .inl (x42, 8, .inl x43)), (x44, .inl (x45, 8, .inl x46)), (x47, .inr (4, [.ref x48, .ref x49, .ref x50, .ref x51, .int x52])), (x53, .inl (x54, 8, .inl x55)), (x56, .inl (x57, 150, .inl x58)), (x59, .inl (x60, 150, .inl x61)), (x62, .inl (x63, 150, .inl x64)), (x65, .inl (x66, 6, .inl x67))]
def qa8c (x0 x1 : Nat) (x2 : Value) (x3 x4 x5 x6 x7 : Nat) (x8 x9 x10 : Value) (x11 : Nat) (x12 x13 : Value) (x14 x15 : Int32) (x16 : Value) (x17 : Int32) (x18 : Nat) (x19 : ClassId) (x20 : NI) : va_W := [(x0, .inr (1, [.ref x1, x2, .ref x3, .ref x4])), (x5, .inr (2, [.ref x6, .ref x7, x8, x9, x10, .ref x11, x12, x13, .int x14, .int x15, x16, .int x17])), (x18, .inl (x19, 64, .inl x20))]
def qLV (x0 : Nat) (x1 : Value) (x2 : Nat) (x3 : Value) (x4 : Nat) (x5 x6 x7 x8 : Value) (x9 x10 : Nat) (x11 x12 x13 x14 x15 x16 x17 x18 : Value) (x19 : Int32) (x20 x21 : Nat) (x22 x23 x24 : Value) (x25 x26 : Nat) (x27 : Value) (x28 x29 x30 : Nat) (x31 : ClassId) (x32 : NI) (x33 : Nat) (x34 : ClassId) (x35 : NI) (x36 x37 x38 : Nat) (x39 x40 x41 : Value) (x42 : Nat) (x43 x44 : Value) (x45 x46 : Int32) (x47 : Value) (x48 : Int32) (x49 : Nat) (x50 : ClassId) (x51 : NI) (x52 : Nat) (x53 : ClassId) (x54 : NI) (x55 x56 x57 x58 x59 : Nat) (x60 : Int32) (x61 : Nat) (x62 : ClassId) (x63 : NI) (x64 : Nat) (x65 : ClassId) (x66 : NI) (x67 : Nat) (x68 : ClassId) (x69 : NI) (x70 : Nat) (x71 : ClassId) (x72 : NI) (x73 : Nat) (x74 : ClassId) (x75 : NI) (x76 : Nat) (x77 : ClassId) (x78 : Nat) (x79 : Nat → Int64) : va_W := [(x0, .inr (10, [x1, .ref x2, x3, .ref x4, x5, x6, x7, x8, .ref x9, .ref x10, x11, x12, x13, x14, x15, x16, x17, x18, .int x19])), (x20, .inr (1, [.ref x21, x22, x23, x24])), (x25, .inr (1, [.ref x26, x27, .ref x28, .ref x29])), (x30, .inl (x31, 64, .inl x32)), (x33, .inl (x34, 64, .inl x35)), (x36, .inr (2, [.ref x37, .ref x38, x39, x40, x41, .ref x42, x43, x44, .int x45, .int x46, x47, .int x48])), (x49, .inl (x50, 8, .inl x51)), (x52, .inl (x53, 8, .inl x54)), (x55, .inr (4, [.ref x56, .ref x57, .ref x58, .ref x59, .int x60])), (x61, .inl (x62, 8, .inl x63)), (x64, .inl (x65, 150, .inl x66)), (x67, .inl (x68, 150, .inl x69)), (x70, .inl (x71, 150, .inl x72)), (x73, .inl (x74, 6, .inl x75)), (x76, .inl (x77, x78, .inr (.inl x79)))]
def qaX4 (x0 : Nat) (x1 : Value) (x2 : Nat) (x3 : Value) (x4 : Nat) (x5 x6 x7 x8 : Value) (x9 x10 : Nat) (x11 x12 x13 x14 x15 x16 x17 x18 : Value) (x19 : Int32) (x20 x21 : Nat) (x22 x23 x24 : Value) (x25 x26 : Nat) (x27 : Value) (x28 x29 x30 : Nat) (x31 : ClassId) (x32 : NI) (x33 : Nat) (x34 : ClassId) (x35 : NI) (x36 x37 x38 : Nat) (x39 x40 x41 : Value) (x42 : Nat) (x43 x44 : Value) (x45 x46 : Int32) (x47 : Value) (x48 : Int32) (x49 : Nat) (x50 : ClassId) (x51 : NI) (x52 : Nat) (x53 : ClassId) (x54 : NI) (x55 x56 x57 x58 x59 : Nat) (x60 : Int32) (x61 : Nat) (x62 : ClassId) (x63 : NI) (x64 : Nat) (x65 : ClassId) (x66 : NI) (x67 : Nat) (x68 : ClassId) (x69 : NI) (x70 : Nat) (x71 : ClassId) (x72 : NI) (x73 : Nat) (x74 : ClassId) (x75 : NI) : va_W := [(x0, .inr (10, [x1, .ref x2, x3, .ref x4, x5, x6, x7, x8, .ref x9, .ref x10, x11, x12, x13, x14, x15, x16, x17, x18, .int x19])), (x20, .inr (1, [.ref x21, x22, x23, x24])), (x25, .inr (1, [.ref x26, x27, .ref x28, .ref x29])), (x30, .inl (x31, 64, .inl x32)), (x33, .inl (x34, 64, .inl x35)), (x36, .inr (2, [.ref x37, .ref x38, x39, x40, x41, .ref x42, x43, x44, .int x45, .int x46, x47, .int x48])), (x49, .inl (x50, 8, .inl x51)), (x52, .inl (x53, 8, .inl x54)), (x55, .inr (4, [.ref x56, .ref x57, .ref x58, .ref x59, .int x60])), (x61, .inl (x62, 8, .inl x63)), (x64, .inl (x65, 150, .inl x66)), (x67, .inl (x68, 150, .inl x69)), (x70, .inl (x71, 150, .inl x72)), (x73, .inl (x74, 6, .inl x75))]
def qHF (x0 x1 : Nat) (x2 : Value) (x3 x4 x5 : Nat) (x6 : ClassId) (x7 : NI) (x8 x9 x10 : Nat) (x11 x12 x13 x14 x15 x16 : Value) (x17 x18 : Int32) (x19 x20 : Value) (x21 x22 x23 x24 x25 : Nat) (x26 : Int32) (x27 : Nat) (x28 : ClassId) (x29 : NI) (x30 : Nat) (x31 : ClassId) (x32 : NI) (x33 : Nat) (x34 : ClassId) (x35 : NI) (x36 : Nat) (x37 : ClassId) (x38 : NI) (x39 : Nat) (x40 : ClassId) (x41 : NI) (x42 : Nat) (x43 : ClassId) (x44 : NI) : va_W := [(x0, .inr (1, [.ref x1, x2, .ref x3, .ref x4])), (x5, .inl (x6, 64, .inl x7)), (x8, .inr (2, [.ref x9, .ref x10, x11, x12, x13, x14, x15, x16, .int x17, .int x18, x19, x20])), (x21, .inr (4, [.ref x22, .ref x23, .ref x24, .ref x25, .int x26])), (x27, .inl (x28, 8, .inl x29)), (x30, .inl (x31, 150, .inl x32)), (x33, .inl (x34, 150, .inl x35)), (x36, .inl (x37, 150, .inl x38)), (x39, .inl (x40, 8, .inl x41)), (x42, .inl (x43, 8, .inl x44))]
def qaYN (x0 x1 x2 : Nat) (x3 x4 x5 x6 x7 x8 : Value) (x9 x10 : Int32) (x11 x12 : Value) (x13 x14 x15 x16 x17 : Nat) (x18 : Int32) (x19 : Nat) (x20 : ClassId) (x21 : NI) (x22 : Nat) (x23 : ClassId) (x24 : NI) (x25 : Nat) (x26 : ClassId) (x27 : NI) (x28 : Nat) (x29 : ClassId) (x30 : NI) (x31 : Nat) (x32 : ClassId) (x33 : NI) (x34 : Nat) (x35 : ClassId) (x36 : NI) : va_W := [(x0, .inr (2, [.ref x1, .ref x2, x3, x4, x5, x6, x7, x8, .int x9, .int x10, x11, x12])), (x13, .inr (4, [.ref x14, .ref x15, .ref x16, .ref x17, .int x18])), (x19, .inl (x20, 8, .inl x21)), (x22, .inl (x23, 150, .inl x24)), (x25, .inl (x26, 150, .inl x27)), (x28, .inl (x29, 150, .inl x30)), (x31, .inl (x32, 8, .inl x33)), (x34, .inl (x35, 8, .inl x36))]
def qa8q (x0 x1 : Nat) (x2 : Value) (x3 x4 x5 : Nat) (x6 : ClassId) (x7 : NI) (x8 x9 x10 : Nat) (x11 x12 x13 x14 x15 x16 : Value) (x17 x18 : Int32) (x19 x20 : Value) (x21 x22 x23 x24 x25 : Nat) (x26 : Int32) (x27 : Nat) (x28 : ClassId) (x29 : NI) (x30 : Nat) (x31 : ClassId) (x32 : NI) (x33 : Nat) (x34 : ClassId) (x35 : NI) (x36 : Nat) (x37 : ClassId) (x38 : NI) : va_W := [(x0, .inr (1, [.ref x1, x2, .ref x3, .ref x4])), (x5, .inl (x6, 64, .inl x7)), (x8, .inr (2, [.ref x9, .ref x10, x11, x12, x13, x14, x15, x16, .int x17, .int x18, x19, x20])), (x21, .inr (4, [.ref x22, .ref x23, .ref x24, .ref x25, .int x26])), (x27, .inl (x28, 8, .inl x29)), (x30, .inl (x31, 150, .inl x32)), (x33, .inl (x34, 150, .inl x35)), (x36, .inl (x37, 150, .inl x38))]
def qaWt (x0 : Nat) (x1 : ClassId) (x2 : NI) (x3 : Nat) (x4 : ClassId) (x5 : NI) : va_W := [(x0, .inl (x1, 8, .inl x2)), (x3, .inl (x4, 8, .inl x5))]
def qa4q (x0 x1 x2 : Nat) (x3 x4 x5 x6 x7 x8 : Value) (x9 x10 : Int32) (x11 x12 : Value) (x13 : Nat) (x14 : ClassId) (x15 : NI) (x16 : Nat) (x17 : ClassId) (x18 : NI) : va_W := [(x0, .inr (2, [.ref x1, .ref x2, x3, x4, x5, x6, x7, x8, .int x9, .int x10, x11, x12])), (x13, .inl (x14, 8, .inl x15)), (x16, .inl (x17, 8, .inl x18))]
def qJx (x0 : Nat) (x1 : Value) (x2 : Nat) (x3 x4 x5 x6 x7 x8 : Value) (x9 : Nat) (x10 x11 x12 x13 x14 x15 x16 x17 : Value) (x18 : Int32) (x19 : Value) (x20 x21 x22 : Nat) (x23 x24 x25 x26 x27 x28 : Value) (x29 x30 : Int32) (x31 x32 : Value) (x33 x34 : Nat) (x35 : Value) (x36 x37 x38 : Nat) (x39 : ClassId) (x40 : NI) (x41 x42 x43 x44 x45 : Nat) (x46 : Int32) (x47 : Nat) (x48 : ClassId) (x49 : NI) (x50 : Nat) (x51 : ClassId) (x52 : NI) (x53 : Nat) (x54 : ClassId) (x55 : NI) (x56 : Nat) (x57 : ClassId) (x58 : NI) (x59 : Nat) (x60 : ClassId) (x61 : NI) (x62 : Nat) (x63 : ClassId) (x64 : NI) : va_W := [(x0, .inr (10, [x1, .ref x2, x3, x4, x5, x6, x7, x8, .ref x9, x10, x11, x12, x13, x14, x15, x16, x17, .int x18, x19])), (x20, .inr (2, [.ref x21, .ref x22, x23, x24, x25, x26, x27, x28, .int x29, .int x30, x31, x32])), (x33, .inr (1, [.ref x34, x35, .ref x36, .ref x37])), (x38, .inl (x39, 64, .inl x40)), (x41, .inr (4, [.ref x42, .ref x43, .ref x44, .ref x45, .int x46])), (x47, .inl (x48, 8, .inl x49)), (x50, .inl (x51, 150, .inl x52)), (x53, .inl (x54, 150, .inl x55)), (x56, .inl (x57, 150, .inl x58)), (x59, .inl (x60, 8, .inl x61)), (x62, .inl (x63, 8, .inl x64))]
def qaY7 (x0 : Nat) (x1 : Value) (x2 : Nat) (x3 x4 x5 x6 x7 x8 : Value) (x9 : Nat) (x10 x11 x12 x13 x14 x15 x16 x17 : Value) (x18 : Int32) (x19 : Value) (x20 x21 x22 : Nat) (x23 x24 x25 x26 x27 x28 : Value) (x29 x30 : Int32) (x31 x32 : Value) : va_W := [(x0, .inr (10, [x1, .ref x2, x3, x4, x5, x6, x7, x8, .ref x9, x10, x11, x12, x13, x14, x15, x16, x17, .int x18, x19])), (x20, .inr (2, [.ref x21, .ref x22, x23, x24, x25, x26, x27, x28, .int x29, .int x30, x31, x32]))]
def qa5X (x0 x1 : Nat) (x2 : Value) (x3 x4 x5 : Nat) (x6 : ClassId) (x7 : NI) (x8 x9 x10 x11 x12 : Nat) (x13 : Int32) (x14 : Nat) (x15 : ClassId) (x16 : NI) (x17 : Nat) (x18 : ClassId) (x19 : NI) (x20 : Nat) (x21 : ClassId) (x22 : NI) (x23 : Nat) (x24 : ClassId) (x25 : NI) (x26 : Nat) (x27 : ClassId) (x28 : NI) (x29 : Nat) (x30 : ClassId) (x31 : NI) : va_W := [(x0, .inr (1, [.ref x1, x2, .ref x3, .ref x4])), (x5, .inl (x6, 64, .inl x7)), (x8, .inr (4, [.ref x9, .ref x10, .ref x11, .ref x12, .int x13])), (x14, .inl (x15, 8, .inl x16)), (x17, .inl (x18, 150, .inl x19)), (x20, .inl (x21, 150, .inl x22)), (x23, .inl (x24, 150, .inl x25)), (x26, .inl (x27, 8, .inl x28)), (x29, .inl (x30, 8, .inl x31))]
def qME (x0 : Nat) (x1 : Value) (x2 : Nat) (x3 : Value) (x4 : Nat) (x5 x6 x7 x8 : Value) (x9 : Nat) (x10 x11 x12 x13 x14 x15 x16 x17 : Value) (x18 : Int32) (x19 : Value) (x20 x21 x22 : Nat) (x23 x24 x25 x26 x27 x28 : Value) (x29 x30 : Int32) (x31 x32 : Value) (x33 x34 : Nat) (x35 : Value) (x36 x37 x38 : Nat) (x39 : ClassId) (x40 : NI) (x41 x42 x43 x44 x45 : Nat) (x46 : Int32) (x47 : Nat) (x48 : ClassId) (x49 : NI) (x50 : Nat) (x51 : ClassId) (x52 : NI) (x53 : Nat) (x54 : ClassId) (x55 : NI) (x56 : Nat) (x57 : ClassId) (x58 : NI) (x59 : Nat) (x60 : ClassId) (x61 : NI) (x62 : Nat) (x63 : ClassId) (x64 : NI) (x65 : Nat) (x66 : ClassId) (x67 : Nat) (x68 : Nat → Int64) : va_W := [(x0, .inr (10, [x1, .ref x2, x3, .ref x4, x5, x6, x7, x8, .ref x9, x10, x11, x12, x13, x14, x15, x16, x17, .int x18, x19])), (x20, .inr (2, [.ref x21, .ref x22, x23, x24, x25, x26, x27, x28, .int x29, .int x30, x31, x32])), (x33, .inr (1, [.ref x34, x35, .ref x36, .ref x37])), (x38, .inl (x39, 64, .inl x40)), (x41, .inr (4, [.ref x42, .ref x43, .ref x44, .ref x45, .int x46])), (x47, .inl (x48, 8, .inl x49)), (x50, .inl (x51, 150, .inl x52)), (x53, .inl (x54, 150, .inl x55)), (x56, .inl (x57, 150, .inl x58)), (x59, .inl (x60, 8, .inl x61)), (x62, .inl (x63, 8, .inl x64)), (x65, .inl (x66, x67, .inr (.inl x68)))]
def qaYe (x0 : Nat) (x1 : Value) (x2 : Nat) (x3 : Value) (x4 : Nat) (x5 x6 x7 x8 : Value) (x9 : Nat) (x10 x11 x12 x13 x14 x15 x16 x17 : Value) (x18 : Int32) (x19 : Value) (x20 x21 x22 : Nat) (x23 x24 x25 x26 x27 x28 : Value) (x29 x30 : Int32) (x31 x32 : Value) (x33 x34 : Nat) (x35 : Value) (x36 x37 x38 : Nat) (x39 : ClassId) (x40 : NI) (x41 x42 x43 x44 x45 : Nat) (x46 : Int32) (x47 : Nat) (x48 : ClassId) (x49 : NI) (x50 : Nat) (x51 : ClassId) (x52 : NI) (x53 : Nat) (x54 : ClassId) (x55 : NI) (x56 : Nat) (x57 : ClassId) (x58 : NI) (x59 : Nat) (x60 : ClassId) (x61 : NI) (x62 : Nat) (x63 : ClassId) (x64 : NI) : va_W := [(x0, .inr (10, [x1, .ref x2, x3, .ref x4, x5, x6, x7, x8, .ref x9, x10, x11, x12, x13, x14, x15, x16, x17, .int x18, x19])), (x20, .inr (2, [.ref x21, .ref x22, x23, x24, x25, x26, x27, x28, .int x29, .int x30, x31, x32])), (x33, .inr (1, [.ref x34, x35, .ref x36, .ref x37])), (x38, .inl (x39, 64, .inl x40)), (x41, .inr (4, [.ref x42, .ref x43, .ref x44, .ref x45, .int x46])), (x47, .inl (x48, 8, .inl x49)), (x50, .inl (x51, 150, .inl x52)), (x53, .inl (x54, 150, .inl x55)), (x56, .inl (x57, 150, .inl x58)), (x59, .inl (x60, 8, .inl x61)), (x62, .inl (x63, 8, .inl x64))]
def qkB (x0 : Nat) (x1 : Value) (x2 : Nat) (x3 x4 x5 x6 x7 x8 x9 x10 x11 x12 x13 x14 x15 x16 x17 : Value) (x18 x19 : Int32) (x20 x21 x22 : Nat) (x23 x24 x25 x26 x27 x28 : Value) (x29 : Int32) (x30 x31 : Value) (x32 : Int32) (x33 : Nat) (x34 : ClassId) (x35 : NI) (x36 : Nat) (x37 : ClassId) (x38 : NI) : va_W := [(x0, .inr (10, [x1, .ref x2, x3, x4, x5, x6, x7, x8, x9, x10, x11, x12, x13, x14, x15, x16, x17, .int x18, .int x19])), (x20, .inr (2, [.ref x21, .ref x22, x23, x24, x25, x26, x27, x28, .int x29, x30, x31, .int x32])), (x33, .inl (x34, 8, .inl x35)), (x36, .inl (x37, 8, .inl x38))]
def q2X (x0 x1 x2 : Nat) (x3 x4 x5 x6 x7 x8 : Value) (x9 : Int32) (x10 x11 : Value) (x12 : Int32) (x13 : Nat) (x14 : ClassId) (x15 : NI) (x16 : Nat) (x17 : ClassId) (x18 : NI) : va_W := [(x0, .inr (2, [.ref x1, .ref x2, x3, x4, x5, x6, x7, x8, .int x9, x10, x11, .int x12])), (x13, .inl (x14, 8, .inl x15)), (x16, .inl (x17, 8, .inl x18))]
def qalE (x0 : Nat) (x1 : Value) (x2 : Nat) (x3 x4 x5 x6 x7 x8 x9 x10 x11 x12 x13 x14 x15 x16 x17 : Value) (x18 x19 : Int32) : va_W := [(x0, .inr (10, [x1, .ref x2, x3, x4, x5, x6, x7, x8, x9, x10, x11, x12, x13, x14, x15, x16, x17, .int x18, .int x19]))]
def qa9K (x0 x1 x2 : Nat) (x3 x4 x5 x6 x7 x8 : Value) (x9 : Int32) (x10 x11 : Value) (x12 : Int32) : va_W := [(x0, .inr (2, [.ref x1, .ref x2, x3, x4, x5, x6, x7, x8, .int x9, x10, x11, .int x12]))]
def qaWF (x0 : Nat) (x1 : Value) (x2 : Nat) (x3 x4 x5 x6 x7 x8 x9 x10 x11 x12 x13 x14 x15 x16 x17 : Value) (x18 x19 : Int32) (x20 x21 x22 : Nat) (x23 x24 x25 x26 x27 x28 : Value) (x29 : Int32) (x30 x31 : Value) (x32 : Int32) : va_W := [(x0, .inr (10, [x1, .ref x2, x3, x4, x5, x6, x7, x8, x9, x10, x11, x12, x13, x14, x15, x16, x17, .int x18, .int x19])), (x20, .inr (2, [.ref x21, .ref x22, x23, x24, x25, x26, x27, x28, .int x29, x30, x31, .int x32]))]
def qM5 (x0 : Nat) (x1 : Value) (x2 : Nat) (x3 x4 x5 x6 x7 x8 x9 x10 x11 x12 x13 x14 x15 x16 x17 : Value) (x18 x19 : Int32) (x20 x21 x22 : Nat) (x23 x24 x25 x26 x27 x28 : Value) (x29 : Int32) (x30 x31 : Value) (x32 : Int32) (x33 : Nat) (x34 : ClassId) (x35 : NI) (x36 : Nat) (x37 : ClassId) (x38 : NI) (x39 : Nat) (x40 : ClassId) (x41 : Nat) (x42 : Nat → Int64) : va_W := [(x0, .inr (10, [x1, .ref x2, x3, x4, x5, x6, x7, x8, x9, x10, x11, x12, x13, x14, x15, x16, x17, .int x18, .int x19])), (x20, .inr (2, [.ref x21, .ref x22, x23, x24, x25, x26, x27, x28, .int x29, x30, x31, .int x32])), (x33, .inl (x34, 8, .inl x35)), (x36, .inl (x37, 8, .inl x38)), (x39, .inl (x40, x41, .inr (.inl x42)))]
def q1r (x0 x1 : Nat) (x2 x3 : Value) (x4 x5 x6 : Nat) (x7 x8 x9 x10 x11 x12 x13 x14 x15 x16 : Value) (x17 : Nat) (x18 : ClassId) (x19 : NI) (x20 : Nat) (x21 : ClassId) (x22 : NI) (x23 : Nat) (x24 : ClassId) (x25 : NI) : va_W := [(x0, .inr (6, [.ref x1, x2, x3])), (x4, .inr (2, [.ref x5, .ref x6, x7, x8, x9, x10, x11, x12, x13, x14, x15, x16])), (x17, .inl (x18, 8, .inl x19)), (x20, .inl (x21, 8, .inl x22)), (x23, .inl (x24, 1024, .inl x25))]
def qa36 (x0 x1 x2 : Nat) (x3 x4 x5 x6 x7 x8 x9 x10 x11 x12 : Value) (x13 : Nat) (x14 : ClassId) (x15 : NI) (x16 : Nat) (x17 : ClassId) (x18 : NI) : va_W := [(x0, .inr (2, [.ref x1, .ref x2, x3, x4, x5, x6, x7, x8, x9, x10, x11, x12])), (x13, .inl (x14, 8, .inl x15)), (x16, .inl (x17, 8, .inl x18))]
def qa4l (x0 x1 : Nat) (x2 x3 : Value) (x4 : Nat) (x5 : ClassId) (x6 : NI) : va_W := [(x0, .inr (6, [.ref x1, x2, x3])), (x4, .inl (x5, 1024, .inl x6))]
def qin (x0 x1 : Nat) (x2 x3 : Value) (x4 x5 x6 : Nat) (x7 x8 x9 x10 x11 x12 : Value) (x13 : Int32) (x14 x15 x16 : Value) (x17 : Nat) (x18 : ClassId) (x19 : NI) (x20 : Nat) (x21 : ClassId) (x22 : NI) (x23 : Nat) (x24 : ClassId) (x25 : NI) : va_W := [(x0, .inr (6, [.ref x1, x2, x3])), (x4, .inr (2, [.ref x5, .ref x6, x7, x8, x9, x10, x11, x12, .int x13, x14, x15, x16])), (x17, .inl (x18, 8, .inl x19)), (x20, .inl (x21, 8, .inl x22)), (x23, .inl (x24, 1024, .inl x25))]
def qa7u (x0 x1 x2 : Nat) (x3 x4 x5 x6 x7 x8 : Value) (x9 : Int32) (x10 x11 x12 : Value) (x13 : Nat) (x14 : ClassId) (x15 : NI) (x16 : Nat) (x17 : ClassId) (x18 : NI) : va_W := [(x0, .inr (2, [.ref x1, .ref x2, x3, x4, x5, x6, x7, x8, .int x9, x10, x11, x12])), (x13, .inl (x14, 8, .inl x15)), (x16, .inl (x17, 8, .inl x18))]
def qzG (x0 x1 : Nat) (x2 x3 : Value) (x4 : Nat) (x5 : ClassId) (x6 : NI) (x7 x8 x9 : Nat) (x10 x11 x12 x13 x14 x15 : Value) (x16 : Int32) (x17 x18 x19 : Value) (x20 : Nat) (x21 : ClassId) (x22 : NI) (x23 : Nat) (x24 : ClassId) (x25 : NI) : va_W := [(x0, .inr (6, [.ref x1, x2, x3])), (x4, .inl (x5, 1024, .inl x6)), (x7, .inr (2, [.ref x8, .ref x9, x10, x11, x12, x13, x14, x15, .int x16, x17, x18, x19])), (x20, .inl (x21, 8, .inl x22)), (x23, .inl (x24, 8, .inl x25))]
def qFu (x0 x1 x2 : Nat) (x3 : Value) (x4 : Nat) (x5 : ClassId) (x6 : NI) (x7 x8 x9 : Nat) (x10 x11 x12 x13 x14 x15 : Value) (x16 : Int32) (x17 x18 x19 : Value) (x20 : Nat) (x21 : ClassId) (x22 : NI) (x23 : Nat) (x24 : ClassId) (x25 : NI) (x26 : Nat) (x27 : ClassId) (x28 : NI) : va_W := [(x0, .inr (6, [.ref x1, .ref x2, x3])), (x4, .inl (x5, 8, .inl x6)), (x7, .inr (2, [.ref x8, .ref x9, x10, x11, x12, x13, x14, x15, .int x16, x17, x18, x19])), (x20, .inl (x21, 1024, .inl x22)), (x23, .inl (x24, 8, .inl x25)), (x26, .inl (x27, 8, .inl x28))]
def qa9m (x0 x1 x2 : Nat) (x3 : Value) (x4 : Nat) (x5 : ClassId) (x6 : NI) (x7 x8 x9 : Nat) (x10 x11 x12 x13 x14 x15 : Value) (x16 : Int32) (x17 x18 x19 : Value) (x20 : Nat) (x21 : ClassId) (x22 : NI) (x23 : Nat) (x24 : ClassId) (x25 : NI) : va_W := [(x0, .inr (6, [.ref x1, .ref x2, x3])), (x4, .inl (x5, 1024, .inl x6)), (x7, .inr (2, [.ref x8, .ref x9, x10, x11, x12, x13, x14, x15, .int x16, x17, x18, x19])), (x20, .inl (x21, 8, .inl x22)), (x23, .inl (x24, 8, .inl x25))]
def qxJ (x0 x1 x2 : Nat) (x3 : Int32) (x4 x5 x6 : Nat) (x7 x8 x9 x10 x11 x12 : Value) (x13 : Int32) (x14 x15 x16 : Value) (x17 : Nat) (x18 : ClassId) (x19 : NI) (x20 : Nat) (x21 : ClassId) (x22 : NI) (x23 : Nat) (x24 : ClassId) (x25 : NI) (x26 : Nat) (x27 : ClassId) (x28 : NI) : va_W := [(x0, .inr (6, [.ref x1, .ref x2, .int x3])), (x4, .inr (2, [.ref x5, .ref x6, x7, x8, x9, x10, x11, x12, .int x13, x14, x15, x16])), (x17, .inl (x18, 8, .inl x19)), (x20, .inl (x21, 8, .inl x22)), (x23, .inl (x24, 1024, .inl x25)), (x26, .inl (x27, 8, .inl x28))]
def qaRD (x0 x1 x2 : Nat) (x3 : Int32) (x4 x5 x6 : Nat) (x7 x8 x9 x10 x11 x12 : Value) (x13 : Int32) (x14 x15 x16 : Value) (x17 : Nat) (x18 : ClassId) (x19 : NI) (x20 : Nat) (x21 : ClassId) (x22 : NI) (x23 : Nat) (x24 : ClassId) (x25 : NI) : va_W := [(x0, .inr (6, [.ref x1, .ref x2, .int x3])), (x4, .inr (2, [.ref x5, .ref x6, x7, x8, x9, x10, x11, x12, .int x13, x14, x15, x16])), (x17, .inl (x18, 8, .inl x19)), (x20, .inl (x21, 8, .inl x22)), (x23, .inl (x24, 1024, .inl x25))]
def qa6Z (x0 x1 x2 : Nat) (x3 : Int32) (x4 : Nat) (x5 : ClassId) (x6 : NI) (x7 x8 x9 : Nat) (x10 x11 x12 x13 x14 x15 : Value) (x16 : Int32) (x17 x18 x19 : Value) (x20 : Nat) (x21 : ClassId) (x22 : NI) (x23 : Nat) (x24 : ClassId) (x25 : NI) (x26 : Nat) (x27 : ClassId) (x28 : NI) : va_W := [(x0, .inr (6, [.ref x1, .ref x2, .int x3])), (x4, .inl (x5, 8, .inl x6)), (x7, .inr (2, [.ref x8, .ref x9, x10, x11, x12, x13, x14, x15, .int x16, x17, x18, x19])), (x20, .inl (x21, 1024, .inl x22)), (x23, .inl (x24, 8, .inl x25)), (x26, .inl (x27, 8, .inl x28))]
def qBU (x0 : Nat) (x1 : Value) (x2 : Nat) (x3 x4 x5 x6 x7 x8 x9 x10 x11 x12 : Value) (x13 : Nat) (x14 x15 x16 x17 x18 : Value) (x19 : Int32) (x20 x21 x22 : Nat) (x23 x24 x25 x26 x27 x28 : Value) (x29 : Int32) (x30 x31 x32 : Value) (x33 x34 x35 : Nat) (x36 : Int32) (x37 : Nat) (x38 : ClassId) (x39 : NI) (x40 : Nat) (x41 : ClassId) (x42 : NI) (x43 : Nat) (x44 : ClassId) (x45 : NI) (x46 : Nat) (x47 : ClassId) (x48 : NI) : va_W := [(x0, .inr (10, [x1, .ref x2, x3, x4, x5, x6, x7, x8, x9, x10, x11, x12, .ref x13, x14, x15, x16, x17, x18, .int x19])), (x20, .inr (2, [.ref x21, .ref x22, x23, x24, x25, x26, x27, x28, .int x29, x30, x31, x32])), (x33, .inr (6, [.ref x34, .ref x35, .int x36])), (x37, .inl (x38, 8, .inl x39)), (x40, .inl (x41, 8, .inl x42)), (x43, .inl (x44, 1024, .inl x45)), (x46, .inl (x47, 8, .inl x48))]
def qaRs (x0 : Nat) (x1 : Value) (x2 : Nat) (x3 x4 x5 x6 x7 x8 x9 x10 x11 x12 : Value) (x13 : Nat) (x14 x15 x16 x17 x18 : Value) (x19 : Int32) : va_W := [(x0, .inr (10, [x1, .ref x2, x3, x4, x5, x6, x7, x8, x9, x10, x11, x12, .ref x13, x14, x15, x16, x17, x18, .int x19]))]
def qa7R (x0 x1 x2 : Nat) (x3 x4 x5 x6 x7 x8 : Value) (x9 : Int32) (x10 x11 x12 : Value) (x13 x14 x15 : Nat) (x16 : Int32) (x17 : Nat) (x18 : ClassId) (x19 : NI) (x20 : Nat) (x21 : ClassId) (x22 : NI) (x23 : Nat) (x24 : ClassId) (x25 : NI) (x26 : Nat) (x27 : ClassId) (x28 : NI) : va_W := [(x0, .inr (2, [.ref x1, .ref x2, x3, x4, x5, x6, x7, x8, .int x9, x10, x11, x12])), (x13, .inr (6, [.ref x14, .ref x15, .int x16])), (x17, .inl (x18, 8, .inl x19)), (x20, .inl (x21, 8, .inl x22)), (x23, .inl (x24, 1024, .inl x25)), (x26, .inl (x27, 8, .inl x28))]
theorem qoS : ∀ w ∈ u_ws RX3 TX3 11, w ∈ wsX3_lookAhead := uiM qtM euX3 (by decide +kernel)
theorem q9I : (.fieldLink RX3 40 "MarchHares$Fitting" "forms" "I" : Cond) ∈ wsX3_lookAhead := qtM 3470 (by decide +kernel)
theorem qPL : (.fieldLink RX3 41 "MarchHares$Fitting" "book" "LMarchHares$Book;" : Cond) ∈ wsX3_lookAhead := qtM 3471 (by decide +kernel)
theorem qFD : (.fieldLink RX3 82 "MarchHares$Fitting" "lookForm" "I" : Cond) ∈ wsX3_lookAhead := qtM 3599 (by decide +kernel)
theorem qFI : (.fieldLink RX3 85 "MarchHares$Fitting" "lookWorst" "I" : Cond) ∈ wsX3_lookAhead := qtM 3600 (by decide +kernel)
set_option maxHeartbeats 4000000 in
set_option maxRecDepth 100000 in
theorem qHn {p : Program} {l : Launch} {e : Env} {s : State} {m : MethodId} {args : Array Value} {below : List Frame} {meth : Method} {c : Code} {A : Nat → Prop} (dC : Nat → ClassId) (dI : Nat → Nat → Nat) (cyB cyI cyJ cyP : ClassId) (a0 jdj jj4 jlj jhn jhY ji2 : Nat) (jmb jmc jlV : Value) (jaC jaN : Int32) (jkE jim jiL jjH : NI) (Q : Int32 → Int32 → NI → Prop) (K12 : Int32 → Int32 → NI → Int32 → Prop) (hK12 : ∀ (H : Heap) (locs : List Loc) (ls : Array Slot) (jmP jmD : Int32) (jly : NI) (l1 : Int32), va_P (dC, dI) vwCl (qvq a0 jhY ji2 jhn jlj jaC jaN jdj jmb jmc jmP jmD jdj jj4 jlV jj4 cyI jkE jlj cyI jly jhn cyI jim jhY cyI jiL ji2 cyI jjH) H → va_D A (qvq a0 jhY ji2 jhn jlj jaC jaN jdj jmb jmc jmP jmD jdj jj4 jlV jj4 cyI jkE jlj cyI jly jhn cyI jim jhY cyI jiL ji2 cyI jjH) → va_S A s.heap H locs → lv_has ls 3 [(0, .ref a0), (1, .int l1)] → K12 jmP jmD jly l1 → W p l e (headSpec wsX3_lookAhead ({ frames := 3, cells := 0, slots := 0, locals := 67 })).room s m args below meth c H locs 0 0 (MQ below (va_Qv (fun (u : Int32 × Int32 × NI) => Q u.1 u.2.1 u.2.2) (cB (dC, dI) (kT cyB cyI cyJ cyP) A (fun u : Int32 × Int32 × NI => ((qvq a0 jhY ji2 jhn jlj jaC jaN jdj jmb jmc u.1 u.2.1 jdj jj4 jlV jj4 cyI jkE jlj cyI u.2.2 jhn cyI jim jhY cyI jiL ji2 cyI jjH) : va_W))) A) args s 0 0 A) (F0 m 12 ls [])) (C0 : cfx p s m args meth c cX3_lookAhead none wsX3_lookAhead RX3 3 A (dC, dI) (kT cyB cyI cyJ cyP)) : ∀ (H : Heap) (locs : List Loc) (ls : Array Slot) (jmP jmD : Int32) (jly : NI) (l1 : Int32), va_P (dC, dI) vwCl (qvq a0 jhY ji2 jhn jlj jaC jaN jdj jmb jmc jmP jmD jdj jj4 jlV jj4 cyI jkE jlj cyI jly jhn cyI jim jhY cyI jiL ji2 cyI jjH) H → va_D A (qvq a0 jhY ji2 jhn jlj jaC jaN jdj jmb jmc jmP jmD jdj jj4 jlV jj4 cyI jkE jlj cyI jly jhn cyI jim jhY cyI jiL ji2 cyI jjH) → va_S A s.heap H locs → lv_has ls 3 [(0, .ref a0), (1, .int l1)] → qA4 jaC jaN jkE jim jiL jjH Q K12 jmP jmD jly l1 → W p l e (headSpec wsX3_lookAhead ({ frames := 3, cells := 0, slots := 0, locals := 67 })).room s m args below meth c H locs 0 0 (MQ below (va_Qv (fun (u : Int32 × Int32 × NI) => Q u.1 u.2.1 u.2.2) (cB (dC, dI) (kT cyB cyI cyJ cyP) A (fun u : Int32 × Int32 × NI => ((qvq a0 jhY ji2 jhn jlj jaC jaN jdj jmb jmc u.1 u.2.1 jdj jj4 jlV jj4 cyI jkE jlj cyI u.2.2 jhn cyI jim jhY cyI jiL ji2 cyI jjH) : va_W))) A) args s 0 0 A) (F0 m 70 ls []) := by
  obtain ⟨hx, hb, hr, hts, hown, hlocks, hml, hA, hK, hNw⟩ := id C0
  intro H locs ls jmP jmD jly l1 hP hD hS hl hw
  obtain ⟨x8, ex8⟩ : ∃ y : Int32, y = l1 + 1 := ⟨_, rfl⟩
  have hw := hw x8 ex8
  refine lv_iinc (v := x8) (lv' := [(1, .int x8), (0, .ref a0)]) hx hb (qaa qoV 6 rfl) hl (k := 1) rfl (by rw [ex8]; rfl) (by decide) rfl (fun ls hl => ?_)
  refine lv_goto (tgt := 12) hx hb (qaa qoV 7 rfl) (by decide) ?_
  exact hK12 _ _ _ jmP jmD jly x8 hP hD hS (lv_sub hl [1, 0] rfl) hw
set_option maxHeartbeats 4000000 in
set_option maxRecDepth 100000 in
theorem qRS {p : Program} {l : Launch} {e : Env} {s : State} {m : MethodId} {args : Array Value} {below : List Frame} {meth : Method} {c : Code} {A : Nat → Prop} (dC : Nat → ClassId) (dI : Nat → Nat → Nat) (cyB cyI cyJ cyP : ClassId) (a0 jdj jj4 jlj jhn jhY ji2 : Nat) (jmb jmc jlV : Value) (jaC jaN : Int32) (jkE jim jiL jjH : NI) (Q : Int32 → Int32 → NI → Prop) (K12 : Int32 → Int32 → NI → Int32 → Prop) (hK12 : ∀ (H : Heap) (locs : List Loc) (ls : Array Slot) (jmP jmD : Int32) (jly : NI) (l1 : Int32), va_P (dC, dI) vwCl (qvq a0 jhY ji2 jhn jlj jaC jaN jdj jmb jmc jmP jmD jdj jj4 jlV jj4 cyI jkE jlj cyI jly jhn cyI jim jhY cyI jiL ji2 cyI jjH) H → va_D A (qvq a0 jhY ji2 jhn jlj jaC jaN jdj jmb jmc jmP jmD jdj jj4 jlV jj4 cyI jkE jlj cyI jly jhn cyI jim jhY cyI jiL ji2 cyI jjH) → va_S A s.heap H locs → lv_has ls 3 [(0, .ref a0), (1, .int l1)] → K12 jmP jmD jly l1 → W p l e (headSpec wsX3_lookAhead ({ frames := 3, cells := 0, slots := 0, locals := 67 })).room s m args below meth c H locs 0 0 (MQ below (va_Qv (fun (u : Int32 × Int32 × NI) => Q u.1 u.2.1 u.2.2) (cB (dC, dI) (kT cyB cyI cyJ cyP) A (fun u : Int32 × Int32 × NI => ((qvq a0 jhY ji2 jhn jlj jaC jaN jdj jmb jmc u.1 u.2.1 jdj jj4 jlV jj4 cyI jkE jlj cyI u.2.2 jhn cyI jim jhY cyI jiL ji2 cyI jjH) : va_W))) A) args s 0 0 A) (F0 m 12 ls [])) (C0 : cfx p s m args meth c cX3_lookAhead none wsX3_lookAhead RX3 3 A (dC, dI) (kT cyB cyI cyJ cyP)) : ∀ (H : Heap) (locs : List Loc) (ls : Array Slot) (jmP jmD : Int32) (jly : NI) (l1 l2 : Int32), va_P (dC, dI) vwCl (qvq a0 jhY ji2 jhn jlj jaC jaN jdj jmb jmc jmP jmD jdj jj4 jlV jj4 cyI jkE jlj cyI jly jhn cyI jim jhY cyI jiL ji2 cyI jjH) H → va_D A (qvq a0 jhY ji2 jhn jlj jaC jaN jdj jmb jmc jmP jmD jdj jj4 jlV jj4 cyI jkE jlj cyI jly jhn cyI jim jhY cyI jiL ji2 cyI jjH) → va_S A s.heap H locs → lv_has ls 3 [(0, .ref a0), (1, .int l1), (2, .int l2)] → qGL jaC jaN jkE jim jiL jjH Q K12 jmP jmD jly l1 l2 → W p l e (headSpec wsX3_lookAhead ({ frames := 3, cells := 0, slots := 0, locals := 67 })).room s m args below meth c H locs 0 0 (MQ below (va_Qv (fun (u : Int32 × Int32 × NI) => Q u.1 u.2.1 u.2.2) (cB (dC, dI) (kT cyB cyI cyJ cyP) A (fun u : Int32 × Int32 × NI => ((qvq a0 jhY ji2 jhn jlj jaC jaN jdj jmb jmc u.1 u.2.1 jdj jj4 jlV jj4 cyI jkE jlj cyI u.2.2 jhn cyI jim jhY cyI jiL ji2 cyI jjH) : va_W))) A) args s 0 0 A) (F0 m 60 ls []) := by
  obtain ⟨hx, hb, hr, hts, hown, hlocks, hml, hA, hK, hNw⟩ := id C0
  intro H locs ls jmP jmD jly l1 l2 hP hD hS hl hw
  refine lv_aload_n hx hb (qaa qoV 0 rfl) rfl (lv_at hl 0 rfl) ?_
  refine lv_iload_n hx hb (qaa qoV 1 rfl) rfl (lv_at hl 1 rfl) ?_
  refine va_put (D := (dC, dI)) (ci := 3) (v := .int l1) (ty := .int) (C := RX3) (T := TX3) (N := 11) hx hb hts qoS tyX3 tyX3_ok nmX3 hown hK hP hD hS 0 rfl rfl 9 (by decide) (hts _ qFD) (fun _ h9 => h9) rfl (by decide +kernel) rfl rfl (nbq rfl) (qaa qoV 2 rfl) (fun H locs hP hD hS => ?_)
  have hP : va_P (dC, dI) vwCl (qvq a0 jhY ji2 jhn jlj jaC jaN jdj jmb jmc l1 jmD jdj jj4 jlV jj4 cyI jkE jlj cyI jly jhn cyI jim jhY cyI jiL ji2 cyI jjH) H := hP
  have hD : va_D A (qvq a0 jhY ji2 jhn jlj jaC jaN jdj jmb jmc l1 jmD jdj jj4 jlV jj4 cyI jkE jlj cyI jly jhn cyI jim jhY cyI jiL ji2 cyI jjH) := hD
  refine lv_aload_n hx hb (qaa qoV 3 rfl) rfl (lv_at hl 0 rfl) ?_
  refine lv_iload_n hx hb (qaa qoV 4 rfl) rfl (lv_at hl 2 rfl) ?_
  refine va_put (D := (dC, dI)) (ci := 3) (v := .int l2) (ty := .int) (C := RX3) (T := TX3) (N := 11) hx hb hts qoS tyX3 tyX3_ok nmX3 hown hK hP hD hS 0 rfl rfl 10 (by decide) (hts _ qFI) (fun _ h9 => h9) rfl (by decide +kernel) rfl rfl (nbq rfl) (qaa qoV 5 rfl) (fun H locs hP hD hS => ?_)
  have hP : va_P (dC, dI) vwCl (qvq a0 jhY ji2 jhn jlj jaC jaN jdj jmb jmc l1 l2 jdj jj4 jlV jj4 cyI jkE jlj cyI jly jhn cyI jim jhY cyI jiL ji2 cyI jjH) H := hP
  have hD : va_D A (qvq a0 jhY ji2 jhn jlj jaC jaN jdj jmb jmc l1 l2 jdj jj4 jlV jj4 cyI jkE jlj cyI jly jhn cyI jim jhY cyI jiL ji2 cyI jjH) := hD
  exact qHn dC dI cyB cyI cyJ cyP a0 jdj jj4 jlj jhn jhY ji2 jmb jmc jlV jaC jaN jkE jim jiL jjH Q K12 hK12 C0 _ _ _ l1 l2 jly l1 hP hD hS (lv_sub hl [0, 1] rfl) hw
set_option maxHeartbeats 4000000 in
set_option maxRecDepth 100000 in
theorem qahL {p : Program} {l : Launch} {e : Env} {s : State} {m : MethodId} {args : Array Value} {below : List Frame} {meth : Method} {c : Code} {A : Nat → Prop} (dC : Nat → ClassId) (dI : Nat → Nat → Nat) (cyB cyI cyJ cyP : ClassId) (a0 jdj jj4 jlj jhn jhY ji2 : Nat) (jmb jmc jlV : Value) (jaC jaN : Int32) (jkE jim jiL jjH : NI) (Q : Int32 → Int32 → NI → Prop) (C0 : cfx p s m args meth c cX3_lookAhead none wsX3_lookAhead RX3 3 A (dC, dI) (kT cyB cyI cyJ cyP)) : ∀ (n : Nat) (H : Heap) (locs : List Loc) (ls : Array Slot) (jmP jmD : Int32) (jly : NI) (l1 : Int32), va_P (dC, dI) vwCl (qvq a0 jhY ji2 jhn jlj jaC jaN jdj jmb jmc jmP jmD jdj jj4 jlV jj4 cyI jkE jlj cyI jly jhn cyI jim jhY cyI jiL ji2 cyI jjH) H → va_D A (qvq a0 jhY ji2 jhn jlj jaC jaN jdj jmb jmc jmP jmD jdj jj4 jlV jj4 cyI jkE jlj cyI jly jhn cyI jim jhY cyI jiL ji2 cyI jjH) → va_S A s.heap H locs → lv_has ls 3 [(0, .ref a0), (1, .int l1)] → qkY jaC jaN jkE jim jiL jjH Q n jmP jmD jly l1 → W p l e (headSpec wsX3_lookAhead ({ frames := 3, cells := 0, slots := 0, locals := 67 })).room s m args below meth c H locs 0 0 (MQ below (va_Qv (fun (u : Int32 × Int32 × NI) => Q u.1 u.2.1 u.2.2) (cB (dC, dI) (kT cyB cyI cyJ cyP) A (fun u : Int32 × Int32 × NI => ((qvq a0 jhY ji2 jhn jlj jaC jaN jdj jmb jmc u.1 u.2.1 jdj jj4 jlV jj4 cyI jkE jlj cyI u.2.2 jhn cyI jim jhY cyI jiL ji2 cyI jjH) : va_W))) A) args s 0 0 A) (F0 m 12 ls []) := by
  obtain ⟨hx, hb, hr, hts, hown, hlocks, hml, hA, hK, hNw⟩ := id C0
  intro n
  induction n with
  | zero => intro H locs ls jmP jmD jly l1 hP hD hS hl hw; exact False.elim hw
  | succ n ih =>
    intro H locs ls jmP jmD jly l1 hP hD hS hl hw
    refine lv_iload_n hx hb (qaa qen 8 rfl) rfl (lv_at hl 1 rfl) ?_
    refine lv_aload_n hx hb (qaa qen 9 rfl) rfl (lv_at hl 0 rfl) ?_
    refine va_get (D := (dC, dI)) (ci := 3) (v := .int jaN) (C := RX3) (T := TX3) (N := 11) hx hb hts qoS hown hK hP 0 rfl rfl 5 (by decide) (hts _ q9I) (fun _ h9 => h9) rfl (qaa qen 10 rfl) ?_
    refine lv_icmp_ge (tgt := 76) hx hb (qaa qen 11 rfl) (by decide) (fun c1 => ?_) (fun c1 => ?_)
    · have hw := hw.1 c1
      exact ((W.vret hx hb hr (fun t ht hW => ⟨⟨(jmP, jmD, jly), rfl, hw, by rw [ht]; exact hP, va_K.moved hW.alike hK, hD⟩, hS.F ht⟩) hS.2.2 (qaa qoV 8 rfl)))
    · have hw := hw.2 c1
      refine lv_aload_n hx hb (qaa qen 12 rfl) rfl (lv_at hl 0 rfl) ?_
      refine va_get (D := (dC, dI)) (ci := 3) (v := .ref jdj) (C := RX3) (T := TX3) (N := 11) hx hb hts qoS hown hK hP 0 rfl rfl 6 (by decide) (hts _ qPL) (fun _ h9 => h9) rfl (qaa qen 13 rfl) ?_
      refine lv_ifnull hx hb (qaa qen 14 rfl) ?_
      refine lv_aload_n hx hb (qaa qen 15 rfl) rfl (lv_at hl 0 rfl) ?_
      refine va_get (D := (dC, dI)) (ci := 3) (v := .ref jdj) (C := RX3) (T := TX3) (N := 11) hx hb hts qoS hown hK hP 0 rfl rfl 6 (by decide) (hts _ qPL) (fun _ h9 => h9) rfl (qaa qdA 0 rfl) ?_
      refine lv_iload_n hx hb (qaa qdA 1 rfl) rfl (lv_at hl 1 rfl) ?_
      obtain ⟨hCc, hPc, hDc, hFc⟩ := qac (ws' := (qbaW jdj jj4 jlV jj4 cyI jkE)) hP hD hS hA [1, 2] (by decide +kernel) rfl
      refine va_calli (va_runV (As := [.int l1]) (rest := []) ⟨hx, hb, hml, hown, hts⟩ (qaDK l dC dI cyB cyI cyJ cyP jdj jj4 H.size (jlV) jkE l1 hw) (cwV 1 hts gX3_lookAhead_X0_tells rfl rfl rfl (by decide +kernel) ⟨nbq rfl, nbq rfl⟩) ⟨qab, va_recv (q := (RX0, TX0, 2)) hK hPc (ci := 0) (q0 := 0) rfl rfl, qae hPc hK hDc hNw⟩ rfl rfl hl.1 rfl (lv_room (nbq rfl)) (qaa qdA 2 rfl) ⟨nbq rfl, nbq rfl⟩) hS (fun q _ h => hFc q h) hFc (fun r2 u t H1 locs ht hvm hw hB hz1 hk1 hS => ?_)
      obtain ⟨hP1, hK1, hD1⟩ := hB
      rw [ht] at hP1
      obtain ⟨hP, hD⟩ := qad (wr := (qa4F a0 jhY ji2 jhn jlj jaC jaN jdj jmb jmc jmP jmD jlj cyI jly jhn cyI jim jhY cyI jiL ji2 cyI jjH)) (w1 := (qbaW jdj jj4 jlV jj4 cyI jkE)) (wn := (qvq a0 jhY ji2 jhn jlj jaC jaN jdj jmb jmc jmP jmD jdj jj4 jlV jj4 cyI jkE jlj cyI jly jhn cyI jim jhY cyI jiL ji2 cyI jjH)) hP hD [1, 2] [0, 3, 4, 5, 6] [0, 5, 6, 1, 2, 3, 4] hCc rfl (by decide +kernel) (by decide +kernel) (by decide +kernel) rfl hk1 hFc hP1 hD1
      generalize H1 = H at hP hS ⊢
      refine lv_if_ne (tgt := 70) hx hb (qaa qdA 3 rfl) (by decide) (fun c3 => ?_) (fun c3 => ?_)
      · have hw := hw.1 c3
        exact qHn dC dI cyB cyI cyJ cyP a0 jdj jj4 jlj jhn jhY ji2 jmb jmc jlV jaC jaN jkE jim jiL jjH Q (qkY jaC jaN jkE jim jiL jjH Q n) ih C0 _ _ _ jmP jmD jly l1 hP hD hS (lv_sub hl [0, 1] rfl) hw
      · have hw := hw.2 c3
        refine lv_aload_n hx hb (qaa qdA 4 rfl) rfl (lv_at hl 0 rfl) ?_
        refine lv_iload_n hx hb (qaa qdA 5 rfl) rfl (lv_at hl 1 rfl) ?_
        obtain ⟨hCc, hPc, hDc, hFc⟩ := qac (ws' := (qa4F a0 jhY ji2 jhn jlj jaC jaN jdj jmb jmc jmP jmD jlj cyI jly jhn cyI jim jhY cyI jiL ji2 cyI jjH)) hP hD hS hA [0, 3, 4, 5, 6] (by decide +kernel) rfl
        refine va_calli (va_runV (As := [.int l1]) (rest := []) ⟨hx, hb, hml, hown, hts⟩ (qaPL l dC dI cyB cyI cyJ cyP a0 jlj jhn jhY ji2 H.size (.ref jdj) (jmb) (jmc) (.int jmP) (.int jmD) jaC jaN jim jiL jjH jly l1 hw) (cwV 1 hts gX3_lookAhead_X3_worstAt rfl rfl rfl (by decide +kernel) ⟨nbq rfl, nbq rfl⟩) ⟨qab, va_recv (q := (RX3, TX3, 11)) hK hPc (ci := 3) (q0 := 0) rfl rfl, qae hPc hK hDc hNw⟩ rfl rfl hl.1 rfl (lv_room (nbq rfl)) (qaa qdA 6 rfl) ⟨nbq rfl, nbq rfl⟩) hS (fun q _ h => hFc q h) hFc (fun r5 u t H1 locs ht hvm hw hB hz1 hk1 hS => ?_)
        obtain ⟨f4, rfl⟩ : ∃ z, z = u := ⟨_, rfl⟩
        obtain ⟨hP1, hK1, hD1⟩ := hB
        rw [ht] at hP1
        obtain ⟨hP, hD⟩ := qad (wr := (qbaW jdj jj4 jlV jj4 cyI jkE)) (w1 := (qa4F a0 jhY ji2 jhn jlj jaC jaN jdj jmb jmc jmP jmD jlj cyI f4 jhn cyI jim jhY cyI jiL ji2 cyI jjH)) (wn := (qvq a0 jhY ji2 jhn jlj jaC jaN jdj jmb jmc jmP jmD jdj jj4 jlV jj4 cyI jkE jlj cyI f4 jhn cyI jim jhY cyI jiL ji2 cyI jjH)) hP hD [0, 3, 4, 5, 6] [1, 2] [2, 0, 1, 3, 4, 5, 6] hCc rfl (by decide +kernel) (by decide +kernel) (by decide +kernel) rfl hk1 hFc hP1 hD1
        generalize H1 = H at hP hS ⊢
        refine lv_istore_n (lv' := [(2, .int r5), (0, .ref a0), (1, .int l1)]) hx hb (qaa qdA 7 rfl) rfl hl (by decide) rfl (fun ls hl => ?_)
        refine lv_aload_n hx hb (qaa qdA 8 rfl) rfl (lv_at hl 1 rfl) ?_
        refine va_get (D := (dC, dI)) (ci := 3) (v := .int jmP) (C := RX3) (T := TX3) (N := 11) hx hb hts qoS hown hK hP 0 rfl rfl 9 (by decide) (hts _ qFD) (fun _ h9 => h9) rfl (qaa qdA 9 rfl) ?_
        refine lv_iconst (v := (-1)) hx hb (qaa qdA 10 rfl) (by decide) ?_
        refine lv_icmp_eq (tgt := 60) hx hb (qaa qdA 11 rfl) (by decide) (fun c6 => ?_) (fun c6 => ?_)
        · have hw := hw.1 c6
          exact qRS dC dI cyB cyI cyJ cyP a0 jdj jj4 jlj jhn jhY ji2 jmb jmc jlV jaC jaN jkE jim jiL jjH Q (qkY jaC jaN jkE jim jiL jjH Q n) ih C0 _ _ _ jmP jmD f4 l1 r5 hP hD hS (lv_sub hl [1, 2, 0] rfl) hw
        · have hw := hw.2 c6
          refine lv_iload_n hx hb (qaa qdA 12 rfl) rfl (lv_at hl 0 rfl) ?_
          refine lv_aload_n hx hb (qaa qdA 13 rfl) rfl (lv_at hl 1 rfl) ?_
          refine va_get (D := (dC, dI)) (ci := 3) (v := .int jmD) (C := RX3) (T := TX3) (N := 11) hx hb hts qoS hown hK hP 0 rfl rfl 10 (by decide) (hts _ qFI) (fun _ h9 => h9) rfl (qaa qdA 14 rfl) ?_
          refine lv_icmp_ge (tgt := 70) hx hb (qaa qdA 15 rfl) (by decide) (fun c7 => ?_) (fun c7 => ?_)
          · have hw := hw.1 c7
            exact qHn dC dI cyB cyI cyJ cyP a0 jdj jj4 jlj jhn jhY ji2 jmb jmc jlV jaC jaN jkE jim jiL jjH Q (qkY jaC jaN jkE jim jiL jjH Q n) ih C0 _ _ _ jmP jmD f4 l1 hP hD hS (lv_sub hl [1, 2] rfl) hw
          · have hw := hw.2 c7
            exact qRS dC dI cyB cyI cyJ cyP a0 jdj jj4 jlj jhn jhY ji2 jmb jmc jlV jaC jaN jkE jim jiL jjH Q (qkY jaC jaN jkE jim jiL jjH Q n) ih C0 _ _ _ jmP jmD f4 l1 r5 hP hD hS (lv_sub hl [1, 2, 0] rfl) hw
set_option maxHeartbeats 4000000 in
set_option maxRecDepth 100000 in
theorem qaBO (l : Launch) (dC : Nat → ClassId) (dI : Nat → Nat → Nat) (cyB cyI cyJ cyP : ClassId) (a0 jdj jj4 jlj jhn jhY ji2 sz : Nat) (jmb jmc jlV : Value) (jaC jaN : Int32) (jkE jim jiL jjH : NI) (jmP jmD : Int32) (jly : NI) {Q : Int32 → Int32 → NI → Prop} (hw : qQy jaC jaN jkE jim jiL jjH jmP jmD jly Q) : Met l yX3_lookAhead wsX3_lookAhead ({ frames := 3, cells := 0, slots := 0, locals := 67 }) (va_Pc [.ref a0] (cPc (dC, dI) (kT cyB cyI cyJ cyP) (qvq a0 jhY ji2 jhn jlj jaC jaN jdj jmb jmc jmP jmD jdj jj4 jlV jj4 cyI jkE jlj cyI jly jhn cyI jim jhY cyI jiL ji2 cyI jjH) sz)) (va_Qv (fun (u : Int32 × Int32 × NI) => Q u.1 u.2.1 u.2.2) (cB (dC, dI) (kT cyB cyI cyJ cyP) (va_A (qvq a0 jhY ji2 jhn jlj jaC jaN jdj jmb jmc jmP jmD jdj jj4 jlV jj4 cyI jkE jlj cyI jly jhn cyI jim jhY cyI jiL ji2 cyI jjH) sz) (fun u : Int32 × Int32 × NI => ((qvq a0 jhY ji2 jhn jlj jaC jaN jdj jmb jmc u.1 u.2.1 jdj jj4 jlV jj4 cyI jkE jlj cyI u.2.2 jhn cyI jim jhY cyI jiL ji2 cyI jjH) : va_W))) (va_A (qvq a0 jhY ji2 jhn jlj jaC jaN jdj jmb jmc jmP jmD jdj jj4 jlV jj4 cyI jkE jlj cyI jly jhn cyI jim jhY cyI jiL ji2 cyI jjH) sz)) 0 0 (va_A (qvq a0 jhY ji2 jhn jlj jaC jaN jdj jmb jmc jmP jmD jdj jj4 jlV jj4 cyI jkE jlj cyI jly jhn cyI jim jhY cyI jiL ji2 cyI jjH) sz) := by
  refine Met.ofW (cc := cX3_lookAhead) (maxL := 3) (ret := none) (by decide) rfl ?_
  intro p e s m args below meth c s₁ B hml hv
  obtain ⟨rfl, hsz, hP, hK, hD0, hNw⟩ := hv
  have hx := B.exec
  have hb := B.bytes
  have hr := B.returns
  have hts := atoms_spec (ws := wsX3_lookAhead) B.pre
  have hown : s.vm.findClass RX3 = some m.cls := findClass_of_methodNamed B.named
  have hlocks := B.notSynchronized
  subst hsz
  have hD := hD0.self (sz := s.heap.size)
  generalize hAe : va_A (qvq a0 jhY ji2 jhn jlj jaC jaN jdj jmb jmc jmP jmD jdj jj4 jlV jj4 cyI jkE jlj cyI jly jhn cyI jim jhY cyI jiL ji2 cyI jjH) s.heap.size = A at hD ⊢
  have hA : ∀ q : Nat, s.heap.size ≤ q → A q := fun q h => by rw [← hAe]; exact Or.inr h
  have hS : va_S A s.heap s.heap [] := va_S.rf
  have hP : va_P (dC, dI) vwCl (qvq a0 jhY ji2 jhn jlj jaC jaN jdj jmb jmc jmP jmD jdj jj4 jlV jj4 cyI jkE jlj cyI jly jhn cyI jim jhY cyI jiL ji2 cyI jjH) s.heap := hP
  have hl := lv_entry ([.ref a0]) (n := 3) (nbq rfl)
  rw [lg_entry_eq]
  generalize (lg_sl ([.ref a0]) ++ List.replicate (3 - (lg_sl ([.ref a0])).length) Slot.unset).toArray = ls at hl ⊢
  have hl : lv_has ls 3 [(0, .ref a0)] := hl
  have C0 : cfx p s m _ meth c cX3_lookAhead none wsX3_lookAhead RX3 3 A (dC, dI) (kT cyB cyI cyJ cyP) := ⟨hx, hb, hr, hts, hown, hlocks, hml, hA, hK, hNw⟩
  clear hAe
  obtain ⟨H, hH⟩ : ∃ H, H = s.heap := ⟨_, rfl⟩
  rw [← hH] at hP ⊢
  have hS : va_S A s.heap H [] := by rw [hH]; exact va_S.rf
  have hS := hS
  refine lv_aload_n hx hb (qaa qen 0 rfl) rfl (lv_at hl 0 rfl) ?_
  refine lv_iconst (v := (-1)) hx hb (qaa qen 1 rfl) (by decide) ?_
  refine va_put (D := (dC, dI)) (ci := 3) (v := .int (-1)) (ty := .int) (C := RX3) (T := TX3) (N := 11) hx hb hts qoS tyX3 tyX3_ok nmX3 hown hK hP hD hS 0 rfl rfl 9 (by decide) (hts _ qFD) (fun _ h9 => h9) rfl (by decide +kernel) rfl rfl (nbq rfl) (qaa qen 2 rfl) (fun H locs hP hD hS => ?_)
  have hP : va_P (dC, dI) vwCl (qvq a0 jhY ji2 jhn jlj jaC jaN jdj jmb jmc (-1) jmD jdj jj4 jlV jj4 cyI jkE jlj cyI jly jhn cyI jim jhY cyI jiL ji2 cyI jjH) H := hP
  have hD : va_D A (qvq a0 jhY ji2 jhn jlj jaC jaN jdj jmb jmc (-1) jmD jdj jj4 jlV jj4 cyI jkE jlj cyI jly jhn cyI jim jhY cyI jiL ji2 cyI jjH) := hD
  refine lv_aload_n hx hb (qaa qen 3 rfl) rfl (lv_at hl 0 rfl) ?_
  refine lv_iconst (v := (-1)) hx hb (qaa qen 4 rfl) (by decide) ?_
  refine va_put (D := (dC, dI)) (ci := 3) (v := .int (-1)) (ty := .int) (C := RX3) (T := TX3) (N := 11) hx hb hts qoS tyX3 tyX3_ok nmX3 hown hK hP hD hS 0 rfl rfl 10 (by decide) (hts _ qFI) (fun _ h9 => h9) rfl (by decide +kernel) rfl rfl (nbq rfl) (qaa qen 5 rfl) (fun H locs hP hD hS => ?_)
  have hP : va_P (dC, dI) vwCl (qvq a0 jhY ji2 jhn jlj jaC jaN jdj jmb jmc (-1) (-1) jdj jj4 jlV jj4 cyI jkE jlj cyI jly jhn cyI jim jhY cyI jiL ji2 cyI jjH) H := hP
  have hD : va_D A (qvq a0 jhY ji2 jhn jlj jaC jaN jdj jmb jmc (-1) (-1) jdj jj4 jlV jj4 cyI jkE jlj cyI jly jhn cyI jim jhY cyI jiL ji2 cyI jjH) := hD
  refine lv_iconst (v := 0) hx hb (qaa qen 6 rfl) (by decide) ?_
  refine lv_istore_n (lv' := [(1, .int 0), (0, .ref a0)]) hx hb (qaa qen 7 rfl) rfl hl (by decide) rfl (fun ls hl => ?_)
  obtain ⟨n9, hw⟩ := hw
  exact qahL dC dI cyB cyI cyJ cyP a0 jdj jj4 jlj jhn jhY ji2 jmb jmc jlV jaC jaN jkE jim jiL jjH Q C0 n9 _ _ _ (-1) (-1) jly 0 hP hD hS (lv_sub hl [1, 0] rfl) hw
theorem qyw : ∀ w ∈ u_ws RX10 TX10 19, w ∈ wsX10_look := uiM qvB qyN (by decide +kernel)
theorem q8h : ∀ w ∈ u_ws RX3 TX3 11, w ∈ wsX10_look := uiM qvB euX3 (by decide +kernel)
theorem qapS : (.fieldLink RX10 349 "MarchHares$Fitting" "lookForm" "I" : Cond) ∈ wsX10_look := qvB 3593 (by decide +kernel)
theorem qat2 : (.fieldLink RX10 352 "MarchHares$Fitting" "lookWorst" "I" : Cond) ∈ wsX10_look := qvB 3594 (by decide +kernel)
theorem qaxa : (.fieldLink RX10 39 "MarchHares" "lines" "LMarchHares$Book;" : Cond) ∈ wsX10_look := qvB 70 (by decide +kernel)
theorem qav0 : (.fieldLink RX10 58 "MarchHares" "now" "LMarchHares$Days;" : Cond) ∈ wsX10_look := qvB 79 (by decide +kernel)
theorem qHK : (.fieldLink RX10 93 "MarchHares" "fitting" "LMarchHares$Fitting;" : Cond) ∈ wsX10_look := qvB 137 (by decide +kernel)
set_option maxHeartbeats 4000000 in
set_option maxRecDepth 100000 in
theorem qaXZ (l : Launch) (dC : Nat → ClassId) (dI : Nat → Nat → Nat) (cyB cyI cyJ cyP : ClassId) (a0 jle jaT jg6 jaR jbb jjI jkf jiM jiE jl8 sz : Nat) (jaK jfS ja1 jcp jbc ja3 jbH jbO jaq jac jbI jbl jba jaa jbA jbr jff jcB jcC jbo jbp jbk jbj jbf jbq jbi jcd jmr : Value) (jbE jbm : Int32) (jbQ jk5 : NI) (jbz jml jmm jmx jmn : Int32) (jmg jmy jlz : NI) (jmC : Value) (jne jmZ : Int32) (jnT : NI) (p1 : Int32) {E : String → Int32 → Int32 → Int32 → Int32 → Int32 → NI → NI → NI → Value → Int32 → Int32 → NI → Prop} {Q : Int32 → Int32 → Int32 → Int32 → Int32 → Int32 → NI → NI → NI → Value → Int32 → Int32 → NI → Prop} (hw : q9J jg6 jbE jbm jbQ jk5 jbz jml jmm jmx jmn jmg jmy jlz jmC jne jmZ jnT p1 E Q) : vx_Met l yX10_look wsX10_look ({ frames := 8, cells := 1, slots := 6, locals := 164 }) (va_Pc [.ref a0, .int p1] (cPx l (dC, dI) (kT cyB cyI cyJ cyP) (q0c a0 jaK jfS ja1 jcp jbc jg6 ja3 jbH jaT jbO jaq jac jbI jbl jle jba jaa jbA jbz jle jjI jkf jiE jl8 jml jmm jmC jmx jmn jne jmZ jaT jbb jbr jaR jff jaR jcB jcC jbo jbp jbk jbj jbf jbq jbE jbm jbi jcd jbb cyI jbQ jjI cyI jmg jkf cyI jmy jg6 jiM jmr jiM cyI jk5 jiE cyI jlz jl8 cyI jnT) sz)) (va_Qi (fun (r : Int32) (u : Int32 × Int32 × Int32 × Int32 × Int32 × NI × NI × NI × Value × Int32 × Int32 × NI) => Q r u.1 u.2.1 u.2.2.1 u.2.2.2.1 u.2.2.2.2.1 u.2.2.2.2.2.1 u.2.2.2.2.2.2.1 u.2.2.2.2.2.2.2.1 u.2.2.2.2.2.2.2.2.1 u.2.2.2.2.2.2.2.2.2.1 u.2.2.2.2.2.2.2.2.2.2.1 u.2.2.2.2.2.2.2.2.2.2.2) (cB (dC, dI) (kT cyB cyI cyJ cyP) (va_A (q0c a0 jaK jfS ja1 jcp jbc jg6 ja3 jbH jaT jbO jaq jac jbI jbl jle jba jaa jbA jbz jle jjI jkf jiE jl8 jml jmm jmC jmx jmn jne jmZ jaT jbb jbr jaR jff jaR jcB jcC jbo jbp jbk jbj jbf jbq jbE jbm jbi jcd jbb cyI jbQ jjI cyI jmg jkf cyI jmy jg6 jiM jmr jiM cyI jk5 jiE cyI jlz jl8 cyI jnT) sz) (fun u : Int32 × Int32 × Int32 × Int32 × Int32 × NI × NI × NI × Value × Int32 × Int32 × NI => ((q0c a0 jaK jfS ja1 jcp jbc jg6 ja3 jbH jaT jbO jaq jac jbI jbl jle jba jaa jbA u.1 jle jjI jkf jiE jl8 u.2.1 u.2.2.1 u.2.2.2.2.2.2.2.2.1 u.2.2.2.1 u.2.2.2.2.1 u.2.2.2.2.2.2.2.2.2.1 u.2.2.2.2.2.2.2.2.2.2.1 jaT jbb jbr jaR jff jaR jcB jcC jbo jbp jbk jbj jbf jbq jbE jbm jbi jcd jbb cyI jbQ jjI cyI u.2.2.2.2.2.1 jkf cyI u.2.2.2.2.2.2.1 jg6 jiM jmr jiM cyI jk5 jiE cyI u.2.2.2.2.2.2.2.1 jl8 cyI u.2.2.2.2.2.2.2.2.2.2.2) : va_W))) (va_A (q0c a0 jaK jfS ja1 jcp jbc jg6 ja3 jbH jaT jbO jaq jac jbI jbl jle jba jaa jbA jbz jle jjI jkf jiE jl8 jml jmm jmC jmx jmn jne jmZ jaT jbb jbr jaR jff jaR jcB jcC jbo jbp jbk jbj jbf jbq jbE jbm jbi jcd jbb cyI jbQ jjI cyI jmg jkf cyI jmy jg6 jiM jmr jiM cyI jk5 jiE cyI jlz jl8 cyI jnT) sz)) (vx_X (fun _ => True) (fun (en : String) (u : Int32 × Int32 × Int32 × Int32 × Int32 × NI × NI × NI × Value × Int32 × Int32 × NI) (t : State) => E en u.1 u.2.1 u.2.2.1 u.2.2.2.1 u.2.2.2.2.1 u.2.2.2.2.2.1 u.2.2.2.2.2.2.1 u.2.2.2.2.2.2.2.1 u.2.2.2.2.2.2.2.2.1 u.2.2.2.2.2.2.2.2.2.1 u.2.2.2.2.2.2.2.2.2.2.1 u.2.2.2.2.2.2.2.2.2.2.2 ∧ cB (dC, dI) (kT cyB cyI cyJ cyP) (va_A (q0c a0 jaK jfS ja1 jcp jbc jg6 ja3 jbH jaT jbO jaq jac jbI jbl jle jba jaa jbA jbz jle jjI jkf jiE jl8 jml jmm jmC jmx jmn jne jmZ jaT jbb jbr jaR jff jaR jcB jcC jbo jbp jbk jbj jbf jbq jbE jbm jbi jcd jbb cyI jbQ jjI cyI jmg jkf cyI jmy jg6 jiM jmr jiM cyI jk5 jiE cyI jlz jl8 cyI jnT) sz) (fun u : Int32 × Int32 × Int32 × Int32 × Int32 × NI × NI × NI × Value × Int32 × Int32 × NI => ((q0c a0 jaK jfS ja1 jcp jbc jg6 ja3 jbH jaT jbO jaq jac jbI jbl jle jba jaa jbA u.1 jle jjI jkf jiE jl8 u.2.1 u.2.2.1 u.2.2.2.2.2.2.2.2.1 u.2.2.2.1 u.2.2.2.2.1 u.2.2.2.2.2.2.2.2.2.1 u.2.2.2.2.2.2.2.2.2.2.1 jaT jbb jbr jaR jff jaR jcB jcC jbo jbp jbk jbj jbf jbq jbE jbm jbi jcd jbb cyI jbQ jjI cyI u.2.2.2.2.2.1 jkf cyI u.2.2.2.2.2.2.1 jg6 jiM jmr jiM cyI jk5 jiE cyI u.2.2.2.2.2.2.2.1 jl8 cyI u.2.2.2.2.2.2.2.2.2.2.2) : va_W)) u t) (va_A (q0c a0 jaK jfS ja1 jcp jbc jg6 ja3 jbH jaT jbO jaq jac jbI jbl jle jba jaa jbA jbz jle jjI jkf jiE jl8 jml jmm jmC jmx jmn jne jmZ jaT jbb jbr jaR jff jaR jcB jcC jbo jbp jbk jbj jbf jbq jbE jbm jbi jcd jbb cyI jbQ jjI cyI jmg jkf cyI jmy jg6 jiM jmr jiM cyI jk5 jiE cyI jlz jl8 cyI jnT) sz)) 1 6 (va_A (q0c a0 jaK jfS ja1 jcp jbc jg6 ja3 jbH jaT jbO jaq jac jbI jbl jle jba jaa jbA jbz jle jjI jkf jiE jl8 jml jmm jmC jmx jmn jne jmZ jaT jbb jbr jaR jff jaR jcB jcC jbo jbp jbk jbj jbf jbq jbE jbm jbi jcd jbb cyI jbQ jjI cyI jmg jkf cyI jmy jg6 jiM jmr jiM cyI jk5 jiE cyI jlz jl8 cyI jnT) sz) := by
  refine vx_ofW (cc := cX10_look) (maxL := 2) (ret := (some .int)) (by decide) rfl ?_
  intro p e s m args below meth c s₁ B hml hnt hv
  obtain ⟨rfl, hsz, hP, hK, hD0, hNw, hXl, hXu, hXn, hXt⟩ := hv
  have hx := B.exec
  have hb := B.bytes
  have hr := B.returns
  have hts := atoms_spec (ws := wsX10_look) B.pre
  have hown : s.vm.findClass RX10 = some m.cls := findClass_of_methodNamed B.named
  have hlocks := B.notSynchronized
  subst hsz
  have hD := hD0.self (sz := s.heap.size)
  generalize hAe : va_A (q0c a0 jaK jfS ja1 jcp jbc jg6 ja3 jbH jaT jbO jaq jac jbI jbl jle jba jaa jbA jbz jle jjI jkf jiE jl8 jml jmm jmC jmx jmn jne jmZ jaT jbb jbr jaR jff jaR jcB jcC jbo jbp jbk jbj jbf jbq jbE jbm jbi jcd jbb cyI jbQ jjI cyI jmg jkf cyI jmy jg6 jiM jmr jiM cyI jk5 jiE cyI jlz jl8 cyI jnT) s.heap.size = A at hD hXu hXn ⊢
  have hA : ∀ q : Nat, s.heap.size ≤ q → A q := fun q h => by rw [← hAe]; exact Or.inr h
  have hS : va_S A s.heap s.heap [] := va_S.rf
  have hP : va_P (dC, dI) vwCl (q0c a0 jaK jfS ja1 jcp jbc jg6 ja3 jbH jaT jbO jaq jac jbI jbl jle jba jaa jbA jbz jle jjI jkf jiE jl8 jml jmm jmC jmx jmn jne jmZ jaT jbb jbr jaR jff jaR jcB jcC jbo jbp jbk jbj jbf jbq jbE jbm jbi jcd jbb cyI jbQ jjI cyI jmg jkf cyI jmy jg6 jiM jmr jiM cyI jk5 jiE cyI jlz jl8 cyI jnT) s.heap := hP
  have hl := lv_entry ([.ref a0, .int p1]) (n := 2) (nbq rfl)
  rw [lg_entry_eq]
  generalize (lg_sl ([.ref a0, .int p1]) ++ List.replicate (2 - (lg_sl ([.ref a0, .int p1])).length) Slot.unset).toArray = ls at hl ⊢
  have hl : lv_has ls 2 [(0, .ref a0), (1, .int p1)] := hl
  have hY : cfY l s A := ⟨hXl, hXu, hXn, hXt⟩
  have hXs : cfX l s c A := ⟨hnt, hY⟩
  have C0 : cfx p s m _ meth c cX10_look (some .int) wsX10_look RX10 2 A (dC, dI) (kT cyB cyI cyJ cyP) ∧ cfX l s c A := ⟨⟨hx, hb, hr, hts, hown, hlocks, hml, hA, hK, hNw⟩, hXs⟩
  clear hAe
  obtain ⟨H, hH⟩ : ∃ H, H = s.heap := ⟨_, rfl⟩
  rw [← hH] at hP ⊢
  have hS : va_S A s.heap H [] := by rw [hH]; exact va_S.rf
  have hS := hS
  refine lv_aload_n hx hb (qaa qlx 0 rfl) rfl (lv_at hl 0 rfl) ?_
  refine lv_iload_n hx hb (qaa qlx 1 rfl) rfl (lv_at hl 1 rfl) ?_
  refine lv_iconst (v := 0) hx hb (qaa qlx 2 rfl) (by decide) ?_
  refine lv_iconst (v := 1) hx hb (qaa qlx 3 rfl) (by decide) ?_
  obtain ⟨hCc, hPc, hDc, hFc⟩ := qac (ws' := (qa7p a0 jaK jfS ja1 jcp jbc jg6 ja3 jbH jaT jbO jaq jac jbI jbl jle jba jaa jbA jbz)) hP hD hS hA [0] (by decide +kernel) rfl
  refine vx_callv (vx_runV (As := [.int p1, .int 0, .int 1]) (rest := []) ⟨hx, hb, hml, hown, hts⟩ (qaV l dC dI cyB cyI cyJ cyP a0 H.size (jaK) (jfS) (ja1) (jcp) (jbc) (.ref jg6) (ja3) (jbH) (.ref jaT) (jbO) (jaq) (jac) (jbI) (jbl) (.ref jle) (jba) (jaa) (jbA) jbz p1 0 1 hw) (cwV 3 hts gX10_look_X10_needWithin rfl rfl rfl (by decide +kernel) ⟨nbq rfl, nbq rfl⟩) ⟨qav, va_recv (q := (RX10, TX10, 19)) hK hPc (ci := 10) (q0 := 0) rfl rfl, qbl hPc hK hDc hNw hY hS hFc⟩ rfl rfl hl.1 rfl (lv_room (nbq rfl)) (qaa qlx 4 rfl) ⟨nbq rfl, nbq rfl⟩) hS (fun q _ h => hFc q h) hFc (fun q _ h => hFc q h) (fun en ce q9 u t H1 locs ht hvm hpx hB hz1 hk1 hS hc9 hv9 hcl9 => ?_) (fun u t H1 locs ht hvm hw hB hz1 hk1 hS => ?_)
  · obtain ⟨x1, rfl⟩ : ∃ z, z = u := ⟨_, rfl⟩
    obtain ⟨hw, hP1, hK1, hD1⟩ := hB
    rw [ht] at hP1
    obtain ⟨hP, hD⟩ := qad (wr := (qbdV jle jjI jkf jiE jl8 jml jmm jmC jmx jmn jne jmZ jaT jbb jbr jaR jff jaR jcB jcC jbo jbp jbk jbj jbf jbq jbE jbm jbi jcd jbb cyI jbQ jjI cyI jmg jkf cyI jmy jg6 jiM jmr jiM cyI jk5 jiE cyI jlz jl8 cyI jnT)) (w1 := (qa7p a0 jaK jfS ja1 jcp jbc jg6 ja3 jbH jaT jbO jaq jac jbI jbl jle jba jaa jbA x1)) (wn := (q0c a0 jaK jfS ja1 jcp jbc jg6 ja3 jbH jaT jbO jaq jac jbI jbl jle jba jaa jbA x1 jle jjI jkf jiE jl8 jml jmm jmC jmx jmn jne jmZ jaT jbb jbr jaR jff jaR jcB jcC jbo jbp jbk jbj jbf jbq jbE jbm jbi jcd jbb cyI jbQ jjI cyI jmg jkf cyI jmy jg6 jiM jmr jiM cyI jk5 jiE cyI jlz jl8 cyI jnT)) hP hD [0] [1, 2, 3, 4, 5, 6, 7, 8, 9, 10] [10, 0, 1, 2, 3, 4, 5, 6, 7, 8, 9] hCc rfl (by decide +kernel) (by decide +kernel) (by decide +kernel) rfl hk1 hFc hP1 hD1
    generalize H1 = H at hP hS hc9 ⊢
    exact vx_out (fun x hx9 => (hXs.1 x hx9).elim) hlocks hc9 hv9 hcl9 (fun t2 ht2 hal2 => ⟨(x1, jml, jmm, jmx, jmn, jmg, jmy, jlz, jmC, jne, jmZ, jnT), trivial, ⟨hw, by rw [ht2]; exact hP, va_K.moved hal2 hK, hD⟩, hS.F ht2⟩) hS.2.2 (nbq rfl) (nbq rfl)
  obtain ⟨x1, rfl⟩ : ∃ z, z = u := ⟨_, rfl⟩
  obtain ⟨hP1, hK1, hD1⟩ := hB
  rw [ht] at hP1
  obtain ⟨hP, hD⟩ := qad (wr := (qbdV jle jjI jkf jiE jl8 jml jmm jmC jmx jmn jne jmZ jaT jbb jbr jaR jff jaR jcB jcC jbo jbp jbk jbj jbf jbq jbE jbm jbi jcd jbb cyI jbQ jjI cyI jmg jkf cyI jmy jg6 jiM jmr jiM cyI jk5 jiE cyI jlz jl8 cyI jnT)) (w1 := (qa7p a0 jaK jfS ja1 jcp jbc jg6 ja3 jbH jaT jbO jaq jac jbI jbl jle jba jaa jbA x1)) (wn := (q0c a0 jaK jfS ja1 jcp jbc jg6 ja3 jbH jaT jbO jaq jac jbI jbl jle jba jaa jbA x1 jle jjI jkf jiE jl8 jml jmm jmC jmx jmn jne jmZ jaT jbb jbr jaR jff jaR jcB jcC jbo jbp jbk jbj jbf jbq jbE jbm jbi jcd jbb cyI jbQ jjI cyI jmg jkf cyI jmy jg6 jiM jmr jiM cyI jk5 jiE cyI jlz jl8 cyI jnT)) hP hD [0] [1, 2, 3, 4, 5, 6, 7, 8, 9, 10] [10, 0, 1, 2, 3, 4, 5, 6, 7, 8, 9] hCc rfl (by decide +kernel) (by decide +kernel) (by decide +kernel) rfl hk1 hFc hP1 hD1
  generalize H1 = H at hP hS ⊢
  refine lv_aload_n hx hb (qaa qlx 5 rfl) rfl (lv_at hl 0 rfl) ?_
  refine va_get (D := (dC, dI)) (ci := 10) (v := .ref jle) (C := RX10) (T := TX10) (N := 19) hx hb hts qyw hown hK hP 0 rfl rfl 14 (by decide) (hts _ qHK) (fun _ h9 => h9) rfl (qaa qlx 6 rfl) ?_
  refine lv_aload_n hx hb (qaa qlx 7 rfl) rfl (lv_at hl 0 rfl) ?_
  refine va_get (D := (dC, dI)) (ci := 10) (v := .ref jaT) (C := RX10) (T := TX10) (N := 19) hx hb hts qyw hown hK hP 0 rfl rfl 8 (by decide) (hts _ qav0) (fun _ h9 => h9) rfl (qaa qlx 8 rfl) ?_
  refine lv_aload_n hx hb (qaa qlx 9 rfl) rfl (lv_at hl 0 rfl) ?_
  refine va_get (D := (dC, dI)) (ci := 10) (v := .ref jg6) (C := RX10) (T := TX10) (N := 19) hx hb hts qyw hown hK hP 0 rfl rfl 5 (by decide) (hts _ qaxa) (fun _ h9 => h9) rfl (qaa qlx 10 rfl) ?_
  obtain ⟨hCc, hPc, hDc, hFc⟩ := qac (ws' := (qbkD jle jjI jkf jiE jl8 jml jmm jmC jmx jmn jne jmZ jaT jbb jbr jaR jff jaR jcB jcC jbo jbp jbk jbj jbf jbq jbE jbm jbi jcd jbb cyI jbQ jjI cyI jmg jkf cyI jmy jg6 jiM jmr jiM cyI jk5 jiE cyI jlz)) hP hD hS hA [1, 2, 3, 4, 5, 6, 7, 8, 9] (by decide +kernel) rfl
  refine va_callv (va_runV (As := [.ref jaT, .ref jg6]) (rest := []) ⟨hx, hb, hml, hown, hts⟩ (qan8 l dC dI cyB cyI cyJ cyP jle jaT jg6 jaR jjI jbb jkf jiE jiM H.size (.ref jl8) (jmC) (.int jne) (.int jmZ) (jbr) (jff) (jcB) (jcC) (jbo) (jbp) (jbk) (jbj) (jbf) (jbq) (jbi) (jcd) (jmr) jbE jbm jbQ jk5 jml jmm jmx jmn jmg jmy jlz hw) (cwV 2 hts gX10_look_X3_settle rfl rfl rfl (by decide +kernel) ⟨nbq rfl, nbq rfl⟩) ⟨qab, va_recv (q := (RX3, TX3, 11)) hK hPc (ci := 3) (q0 := 0) rfl rfl, qae hPc hK hDc hNw⟩ rfl rfl hl.1 rfl (lv_room (nbq rfl)) (qaa qlx 11 rfl) ⟨nbq rfl, nbq rfl⟩) hS (fun q _ h => hFc q h) hFc (fun u t H1 locs ht hvm hw hB hz1 hk1 hS => ?_)
  obtain ⟨x2, x3, x4, x5, f6, f7, f8⟩ := u
  obtain ⟨hP1, hK1, hD1⟩ := hB
  rw [ht] at hP1
  obtain ⟨hP, hD⟩ := qad (wr := [(a0, .inr (10, [jaK, jfS, ja1, jcp, jbc, .ref jg6, ja3, jbH, .ref jaT, jbO, jaq, jac, jbI, jbl, .ref jle, jba, jaa, jbA, .int x1])), (jl8, .inl (cyI, 7, .inl jnT))]) (w1 := [(jle, .inr (3, [.ref jjI, .ref jkf, .ref jiE, .ref jl8, .int x2, .int x3, .ref jg6, .int x4, .int x5, .int jne, .int jmZ])), (jaT, .inr (1, [.ref jbb, jbr, .ref jaR, jff])), (jaR, .inr (2, [jcB, jcC, jbo, jbp, jbk, jbj, jbf, jbq, .int jbE, .int jbm, jbi, jcd])), (jbb, .inl (cyI, 64, .inl jbQ)), (jjI, .inl (cyI, 8, .inl f6)), (jkf, .inl (cyI, 6, .inl f7)), (jg6, .inr (0, [.ref jiM, jmr])), (jiM, .inl (cyI, 8, .inl jk5)), (jiE, .inl (cyI, 6, .inl f8))]) (wn := (qbdu a0 jaK jfS ja1 jcp jbc jg6 ja3 jbH jaT jbO jaq jac jbI jbl jle jba jaa jbA x1 jle jjI jkf jiE jl8 x2 x3 jg6 x4 x5 jne jmZ jaT jbb jbr jaR jff jaR jcB jcC jbo jbp jbk jbj jbf jbq jbE jbm jbi jcd jbb cyI jbQ jjI cyI f6 jkf cyI f7 jg6 jiM jmr jiM cyI jk5 jiE cyI f8 jl8 cyI jnT)) hP hD [1, 2, 3, 4, 5, 6, 7, 8, 9] [0, 10] [0, 2, 3, 4, 5, 6, 7, 8, 9, 10, 1] hCc rfl (by decide +kernel) (by decide +kernel) (by decide +kernel) rfl hk1 hFc hP1 hD1
  generalize H1 = H at hP hS ⊢
  refine lv_aload_n hx hb (qaa qlx 12 rfl) rfl (lv_at hl 0 rfl) ?_
  refine va_get (D := (dC, dI)) (ci := 10) (v := .ref jle) (C := RX10) (T := TX10) (N := 19) hx hb hts qyw hown hK hP 0 rfl rfl 14 (by decide) (hts _ qHK) (fun _ h9 => h9) rfl (qaa qlx 13 rfl) ?_
  obtain ⟨hCc, hPc, hDc, hFc⟩ := qac (ws' := (qbc7 jle jjI jkf jiE jl8 x2 x3 jg6 x4 x5 jne jmZ jg6 jiM jmr jiM cyI jk5 jl8 cyI jnT jiE cyI f8 jjI cyI f6 jkf cyI f7)) hP hD hS hA [1, 7, 8, 10, 9, 5, 6] (by decide +kernel) rfl
  refine va_callv (va_runV (As := []) (rest := []) ⟨hx, hb, hml, hown, hts⟩ (qaBO l dC dI cyB cyI cyJ cyP jle jg6 jiM jl8 jiE jjI jkf H.size (.int x4) (.int x5) (jmr) x2 x3 jk5 f8 f6 f7 jne jmZ jnT hw) (cwV 0 hts gX10_look_X3_lookAhead rfl rfl rfl (by decide +kernel) ⟨nbq rfl, nbq rfl⟩) ⟨qab, va_recv (q := (RX3, TX3, 11)) hK hPc (ci := 3) (q0 := 0) rfl rfl, qae hPc hK hDc hNw⟩ rfl rfl hl.1 rfl (lv_room (nbq rfl)) (qaa qlx 14 rfl) ⟨nbq rfl, nbq rfl⟩) hS (fun q _ h => hFc q h) hFc (fun u t H1 locs ht hvm hw hB hz1 hk1 hS => ?_)
  obtain ⟨x9, x10, f11⟩ := u
  obtain ⟨hP1, hK1, hD1⟩ := hB
  rw [ht] at hP1
  obtain ⟨hP, hD⟩ := qad (wr := [(a0, .inr (10, [jaK, jfS, ja1, jcp, jbc, .ref jg6, ja3, jbH, .ref jaT, jbO, jaq, jac, jbI, jbl, .ref jle, jba, jaa, jbA, .int x1])), (jaT, .inr (1, [.ref jbb, jbr, .ref jaR, jff])), (jaR, .inr (2, [jcB, jcC, jbo, jbp, jbk, jbj, jbf, jbq, .int jbE, .int jbm, jbi, jcd])), (jbb, .inl (cyI, 64, .inl jbQ))]) (w1 := (qbc7 jle jjI jkf jiE jl8 x2 x3 jg6 x4 x5 x9 x10 jg6 jiM jmr jiM cyI jk5 jl8 cyI f11 jiE cyI f8 jjI cyI f6 jkf cyI f7)) (wn := (qbdu a0 jaK jfS ja1 jcp jbc jg6 ja3 jbH jaT jbO jaq jac jbI jbl jle jba jaa jbA x1 jle jjI jkf jiE jl8 x2 x3 jg6 x4 x5 x9 x10 jaT jbb jbr jaR jff jaR jcB jcC jbo jbp jbk jbj jbf jbq jbE jbm jbi jcd jbb cyI jbQ jjI cyI f6 jkf cyI f7 jg6 jiM jmr jiM cyI jk5 jiE cyI f8 jl8 cyI f11)) hP hD [1, 7, 8, 10, 9, 5, 6] [0, 2, 3, 4] [0, 4, 1, 2, 3, 9, 10, 5, 6, 8, 7] hCc rfl (by decide +kernel) (by decide +kernel) (by decide +kernel) rfl hk1 hFc hP1 hD1
  generalize H1 = H at hP hS ⊢
  refine lv_iload_n hx hb (qaa qlx 15 rfl) rfl (lv_at hl 1 rfl) ?_
  refine lv_if_ne (tgt := 43) hx hb (qaa qEf 0 rfl) (by decide) (fun c12 => ?_) (fun c12 => ?_)
  · have hw := hw.1 c12
    refine lv_aload_n hx hb (qaa qD2 0 rfl) rfl (lv_at hl 0 rfl) ?_
    refine va_get (D := (dC, dI)) (ci := 10) (v := .ref jle) (C := RX10) (T := TX10) (N := 19) hx hb hts qyw hown hK hP 0 rfl rfl 14 (by decide) (hts _ qHK) (fun _ h9 => h9) rfl (qaa qD2 1 rfl) ?_
    refine va_get (D := (dC, dI)) (ci := 3) (v := .int x10) (C := RX3) (T := TX3) (N := 11) hx hb hts q8h hown hK hP 1 rfl rfl 10 (by decide) (hts _ qat2) (fun _ h9 => h9) rfl (qaa qD2 2 rfl) ?_
    exact vx_ret (W.widen (k := 1) (n := 6) (nbq rfl) (nbq rfl) (W.iret (v := x10) hx hb hr (fun t ht hW => ⟨⟨x10, (x1, x2, x3, x4, x5, f6, f7, f8, (.ref jg6), x9, x10, f11), rfl, hw, by rw [ht]; exact hP, va_K.moved hW.alike hK, hD⟩, hS.F ht⟩) hS.2.2 (qaa qD2 3 rfl)))
  · have hw := hw.2 c12
    refine lv_aload_n hx hb (qaa qEf 1 rfl) rfl (lv_at hl 0 rfl) ?_
    refine va_get (D := (dC, dI)) (ci := 10) (v := .ref jle) (C := RX10) (T := TX10) (N := 19) hx hb hts qyw hown hK hP 0 rfl rfl 14 (by decide) (hts _ qHK) (fun _ h9 => h9) rfl (qaa qEf 2 rfl) ?_
    refine va_get (D := (dC, dI)) (ci := 3) (v := .int x9) (C := RX3) (T := TX3) (N := 11) hx hb hts q8h hown hK hP 1 rfl rfl 9 (by decide) (hts _ qapS) (fun _ h9 => h9) rfl (qaa qEf 3 rfl) ?_
    refine lv_goto (tgt := 50) hx hb (qaa qEf 4 rfl) (by decide) ?_
    exact vx_ret (W.widen (k := 1) (n := 6) (nbq rfl) (nbq rfl) (W.iret (v := x9) hx hb hr (fun t ht hW => ⟨⟨x9, (x1, x2, x3, x4, x5, f6, f7, f8, (.ref jg6), x9, x10, f11), rfl, hw, by rw [ht]; exact hP, va_K.moved hW.alike hK, hD⟩, hS.F ht⟩) hS.2.2 (qaa qD2 3 rfl)))
theorem qaG2 : (.classLink RL 13 "java/lang/IllegalArgumentException" : Cond) ∈ wsL_look := qau8 595 (by decide +kernel)
theorem qaWp : (.codeWith yL_look cL_look 4 (some .int) [(0, 9, 12, 13)] : Cond) ∈ wsL_look := qau8 3588 (by decide +kernel)
set_option maxHeartbeats 4000000 in
set_option maxRecDepth 100000 in
theorem qa6O (l : Launch) (dC : Nat → ClassId) (dI : Nat → Nat → Nat) (cyB cyI cyJ cyP : ClassId) (a0 a2 jle jaT jaR jbb jjI jkf jg6 jiM jiE jl8 sz : Nat) (jaK ja1 jcp jbc ja3 jbH jbO jaq jac jbI jbl jba jaa jbA jbr jff jcB jcC jbo jbp jbk jbj jbf jbq jbi jcd jmr : Value) (n2 : Nat) (jbE jbm : Int32) (jbQ jk5 : NI) (jbz jml jmm jmx jmn : Int32) (jmg jmy jlz : NI) (jmC : Value) (jne jmZ : Int32) (jnT : NI) (f2 : Nat → Int64) (p1 : Int32) {Q : Int32 → Int32 → Int32 → Int32 → Int32 → Int32 → NI → NI → NI → Value → Int32 → Int32 → NI → (Nat → Int64) → Prop} (hw : qaTf jg6 n2 jbE jbm jbQ jk5 jbz jml jmm jmx jmn jmg jmy jlz jmC jne jmZ jnT f2 p1 Q) : Met l yL_look wsL_look ({ frames := 9, cells := 1, slots := 6, locals := 185 }) (va_Pc [.ref a0, .int p1, .ref a2] (cPx l (dC, dI) (kT cyB cyI cyJ cyP) (qZp a0 jaK jaR ja1 jcp jbc jg6 ja3 jbH jaT jbO jaq jac jbI jbl jle jba jaa jbA jbz jle jjI jkf jiE jl8 jml jmm jmC jmx jmn jne jmZ jaT jbb jbr jaR jff jaR jcB jcC jbo jbp jbk jbj jbf jbq jbE jbm jbi jcd jbb cyI jbQ jjI cyI jmg jkf cyI jmy jg6 jiM jmr jiM cyI jk5 jiE cyI jlz jl8 cyI jnT a2 cyJ n2 f2) sz)) (va_Qi (fun (r : Int32) (u : Int32 × Int32 × Int32 × Int32 × Int32 × NI × NI × NI × Value × Int32 × Int32 × NI × (Nat → Int64)) => Q r u.1 u.2.1 u.2.2.1 u.2.2.2.1 u.2.2.2.2.1 u.2.2.2.2.2.1 u.2.2.2.2.2.2.1 u.2.2.2.2.2.2.2.1 u.2.2.2.2.2.2.2.2.1 u.2.2.2.2.2.2.2.2.2.1 u.2.2.2.2.2.2.2.2.2.2.1 u.2.2.2.2.2.2.2.2.2.2.2.1 u.2.2.2.2.2.2.2.2.2.2.2.2) (cB (dC, dI) (kT cyB cyI cyJ cyP) (va_A (qZp a0 jaK jaR ja1 jcp jbc jg6 ja3 jbH jaT jbO jaq jac jbI jbl jle jba jaa jbA jbz jle jjI jkf jiE jl8 jml jmm jmC jmx jmn jne jmZ jaT jbb jbr jaR jff jaR jcB jcC jbo jbp jbk jbj jbf jbq jbE jbm jbi jcd jbb cyI jbQ jjI cyI jmg jkf cyI jmy jg6 jiM jmr jiM cyI jk5 jiE cyI jlz jl8 cyI jnT a2 cyJ n2 f2) sz) (fun u : Int32 × Int32 × Int32 × Int32 × Int32 × NI × NI × NI × Value × Int32 × Int32 × NI × (Nat → Int64) => ((qZp a0 jaK jaR ja1 jcp jbc jg6 ja3 jbH jaT jbO jaq jac jbI jbl jle jba jaa jbA u.1 jle jjI jkf jiE jl8 u.2.1 u.2.2.1 u.2.2.2.2.2.2.2.2.1 u.2.2.2.1 u.2.2.2.2.1 u.2.2.2.2.2.2.2.2.2.1 u.2.2.2.2.2.2.2.2.2.2.1 jaT jbb jbr jaR jff jaR jcB jcC jbo jbp jbk jbj jbf jbq jbE jbm jbi jcd jbb cyI jbQ jjI cyI u.2.2.2.2.2.1 jkf cyI u.2.2.2.2.2.2.1 jg6 jiM jmr jiM cyI jk5 jiE cyI u.2.2.2.2.2.2.2.1 jl8 cyI u.2.2.2.2.2.2.2.2.2.2.2.1 a2 cyJ n2 u.2.2.2.2.2.2.2.2.2.2.2.2) : va_W))) (va_A (qZp a0 jaK jaR ja1 jcp jbc jg6 ja3 jbH jaT jbO jaq jac jbI jbl jle jba jaa jbA jbz jle jjI jkf jiE jl8 jml jmm jmC jmx jmn jne jmZ jaT jbb jbr jaR jff jaR jcB jcC jbo jbp jbk jbj jbf jbq jbE jbm jbi jcd jbb cyI jbQ jjI cyI jmg jkf cyI jmy jg6 jiM jmr jiM cyI jk5 jiE cyI jlz jl8 cyI jnT a2 cyJ n2 f2) sz)) 1 6 (va_A (qZp a0 jaK jaR ja1 jcp jbc jg6 ja3 jbH jaT jbO jaq jac jbI jbl jle jba jaa jbA jbz jle jjI jkf jiE jl8 jml jmm jmC jmx jmn jne jmZ jaT jbb jbr jaR jff jaR jcB jcC jbo jbp jbk jbj jbf jbq jbE jbm jbi jcd jbb cyI jbQ jjI cyI jmg jkf cyI jmy jg6 jiM jmr jiM cyI jk5 jiE cyI jlz jl8 cyI jnT a2 cyJ n2 f2) sz) := by
  refine va_MetW (cc := cL_look) (maxL := 4) (ret := (some .int)) (by decide) rfl ?_
  intro p e s m args below meth c s₁ B hml hv
  obtain ⟨rfl, hsz, hP, hK, hD0, hNw, hXl, hXu, hXn, hXt⟩ := hv
  have hx := B.exec
  have hb := B.bytes
  have hr := B.returns
  have hts := atoms_spec (ws := wsL_look) B.pre
  have hown : s.vm.findClass RL = some m.cls := findClass_of_methodNamed B.named
  have hlocks := B.notSynchronized
  subst hsz
  have hD := hD0.self (sz := s.heap.size)
  generalize hAe : va_A (qZp a0 jaK jaR ja1 jcp jbc jg6 ja3 jbH jaT jbO jaq jac jbI jbl jle jba jaa jbA jbz jle jjI jkf jiE jl8 jml jmm jmC jmx jmn jne jmZ jaT jbb jbr jaR jff jaR jcB jcC jbo jbp jbk jbj jbf jbq jbE jbm jbi jcd jbb cyI jbQ jjI cyI jmg jkf cyI jmy jg6 jiM jmr jiM cyI jk5 jiE cyI jlz jl8 cyI jnT a2 cyJ n2 f2) s.heap.size = A at hD hXu hXn ⊢
  have hA : ∀ q : Nat, s.heap.size ≤ q → A q := fun q h => by rw [← hAe]; exact Or.inr h
  have hS : va_S A s.heap s.heap [] := va_S.rf
  have hP : va_P (dC, dI) vwCl (qZp a0 jaK jaR ja1 jcp jbc jg6 ja3 jbH jaT jbO jaq jac jbI jbl jle jba jaa jbA jbz jle jjI jkf jiE jl8 jml jmm jmC jmx jmn jne jmZ jaT jbb jbr jaR jff jaR jcB jcC jbo jbp jbk jbj jbf jbq jbE jbm jbi jcd jbb cyI jbQ jjI cyI jmg jkf cyI jmy jg6 jiM jmr jiM cyI jk5 jiE cyI jlz jl8 cyI jnT a2 cyJ n2 f2) s.heap := hP
  have hl := lv_entry ([.ref a0, .int p1, .ref a2]) (n := 4) (nbq rfl)
  rw [lg_entry_eq]
  generalize (lg_sl ([.ref a0, .int p1, .ref a2]) ++ List.replicate (4 - (lg_sl ([.ref a0, .int p1, .ref a2])).length) Slot.unset).toArray = ls at hl ⊢
  have hl : lv_has ls 4 [(0, .ref a0), (1, .int p1), (2, .ref a2)] := hl
  have hY : cfY l s A := ⟨hXl, hXu, hXn, hXt⟩
  have hTb := vx_table (x := yL_look) B (hts _ qaWp)
  clear hAe
  obtain ⟨H, hH⟩ : ∃ H, H = s.heap := ⟨_, rfl⟩
  rw [← hH] at hP ⊢
  have hS : va_S A s.heap H [] := by rw [hH]; exact va_S.rf
  have hS := hS
  refine lv_aload_n hx hb (qaa qtb 0 rfl) rfl (lv_at hl 2 rfl) ?_
  refine lv_iconst (v := 0) hx hb (qaa qtb 1 rfl) (by decide) ?_
  refine lv_aload_n hx hb (qaa qtb 2 rfl) rfl (lv_at hl 0 rfl) ?_
  refine lv_iload_n hx hb (qaa qtb 3 rfl) rfl (lv_at hl 1 rfl) ?_
  obtain ⟨hCc, hPc, hDc, hFc⟩ := qac (ws' := (qaYo a0 jaK jaR ja1 jcp jbc jg6 ja3 jbH jaT jbO jaq jac jbI jbl jle jba jaa jbA jbz jle jjI jkf jiE jl8 jml jmm jmC jmx jmn jne jmZ jaT jbb jbr jaR jff jaR jcB jcC jbo jbp jbk jbj jbf jbq jbE jbm jbi jcd jbb cyI jbQ jjI cyI jmg jkf cyI jmy jg6 jiM jmr jiM cyI jk5 jiE cyI jlz jl8 cyI jnT)) hP hD hS hA [0, 1, 2, 3, 4, 5, 6, 7, 8, 9, 10] (by decide +kernel) rfl
  refine vx_calli (vx_runV (As := [.int p1]) (rest := [.int 0, .ref a2]) ⟨hx, hb, hml, hown, hts⟩ (qaXZ l dC dI cyB cyI cyJ cyP a0 jle jaT jg6 jaR jbb jjI jkf jiM jiE jl8 H.size (jaK) (.ref jaR) (ja1) (jcp) (jbc) (ja3) (jbH) (jbO) (jaq) (jac) (jbI) (jbl) (jba) (jaa) (jbA) (jbr) (jff) (jcB) (jcC) (jbo) (jbp) (jbk) (jbj) (jbf) (jbq) (jbi) (jcd) (jmr) jbE jbm jbQ jk5 jbz jml jmm jmx jmn jmg jmy jlz jmC jne jmZ jnT p1 hw) (cwV 1 hts gL_look_X10_look rfl rfl rfl (by decide +kernel) ⟨nbq rfl, nbq rfl⟩) ⟨qav, va_recv (q := (RX10, TX10, 19)) hK hPc (ci := 10) (q0 := 0) rfl rfl, qbl hPc hK hDc hNw hY hS hFc⟩ rfl rfl hl.1 rfl (lv_room (nbq rfl)) (qaa qtb 4 rfl) ⟨nbq rfl, nbq rfl⟩) hS (fun q _ h => hFc q h) hFc (fun q _ h => hFc q h) (fun en ce qx9 u t H1 locs ht hvm hpx hB hz1 hk1 hS hc9 hv9 hcl9 => ?_) (fun r13 u t H1 locs ht hvm hw hB hz1 hk1 hS => ?_)
  · obtain ⟨x1, x2, x3, x4, x5, f6, f7, f8, q9, x10, x11, f12⟩ := u
    obtain ⟨hw, hP1, hK1, hD1⟩ := hB
    rw [ht] at hP1
    obtain ⟨hP, hD⟩ := qad (wr := [(a2, .inl (cyJ, n2, .inr (.inl f2)))]) (w1 := (qaYo a0 jaK jaR ja1 jcp jbc jg6 ja3 jbH jaT jbO jaq jac jbI jbl jle jba jaa jbA x1 jle jjI jkf jiE jl8 x2 x3 q9 x4 x5 x10 x11 jaT jbb jbr jaR jff jaR jcB jcC jbo jbp jbk jbj jbf jbq jbE jbm jbi jcd jbb cyI jbQ jjI cyI f6 jkf cyI f7 jg6 jiM jmr jiM cyI jk5 jiE cyI f8 jl8 cyI f12)) (wn := (qZp a0 jaK jaR ja1 jcp jbc jg6 ja3 jbH jaT jbO jaq jac jbI jbl jle jba jaa jbA x1 jle jjI jkf jiE jl8 x2 x3 q9 x4 x5 x10 x11 jaT jbb jbr jaR jff jaR jcB jcC jbo jbp jbk jbj jbf jbq jbE jbm jbi jcd jbb cyI jbQ jjI cyI f6 jkf cyI f7 jg6 jiM jmr jiM cyI jk5 jiE cyI f8 jl8 cyI f12 a2 cyJ n2 f2)) hP hD [0, 1, 2, 3, 4, 5, 6, 7, 8, 9, 10] [11] [1, 2, 3, 4, 5, 6, 7, 8, 9, 10, 11, 0] hCc rfl (by decide +kernel) (by decide +kernel) (by decide +kernel) rfl hk1 hFc hP1 hD1
    generalize H1 = H at hP hS hc9 ⊢
    obtain ⟨rfl, hw⟩ := hw
    refine vx_catch (own := RL) (name := "java/lang/IllegalArgumentException") hown [] ⟨0, 9, 12, 13⟩ [] (hTb.trans rfl) (fun z hz => nomatch hz) (by decide) (by decide) (hts _ qaG2) (va_Nw.use rfl (hY.2.2.2.1.2 _ (List.mem_of_getElem? (i := 0) rfl))) hc9 hv9 hcl9 ?_
    refine lv_astore_n (lv' := [(3, .ref qx9), (0, .ref a0), (1, .int p1), (2, .ref a2)]) hx hb (qaa qtb 8 rfl) rfl hl (by decide) rfl (fun ls hl => ?_)
    refine lv_iconst (v := 1) hx hb (qaa qtb 9 rfl) (by decide) ?_
    exact (W.widen (k := 1) (n := 6) (nbq rfl) (nbq rfl) (W.iret (v := 1) hx hb hr (fun t ht hW => ⟨⟨1, (x1, x2, x3, x4, x5, f6, f7, f8, q9, x10, x11, f12, f2), rfl, hw, by rw [ht]; exact hP, va_K.moved hW.alike hK, hD⟩, hS.F ht⟩) hS.2.2 (qaa qtb 10 rfl)))
  obtain ⟨x1, x2, x3, x4, x5, f6, f7, f8, q9, x10, x11, f12⟩ := u
  obtain ⟨hP1, hK1, hD1⟩ := hB
  rw [ht] at hP1
  obtain ⟨hP, hD⟩ := va_join (wr := [(a2, .inl (cyJ, n2, .inr (.inl f2)))]) (w1 := (qaYo a0 jaK jaR ja1 jcp jbc jg6 ja3 jbH jaT jbO jaq jac jbI jbl jle jba jaa jbA x1 jle jjI jkf jiE jl8 x2 x3 q9 x4 x5 x10 x11 jaT jbb jbr jaR jff jaR jcB jcC jbo jbp jbk jbj jbf jbq jbE jbm jbi jcd jbb cyI jbQ jjI cyI f6 jkf cyI f7 jg6 jiM jmr jiM cyI jk5 jiE cyI f8 jl8 cyI f12)) hP hD [0, 1, 2, 3, 4, 5, 6, 7, 8, 9, 10] [11] rfl rfl (by decide) (by decide) hk1 hFc hP1 hD1
  have hP : va_P (dC, dI) vwCl (qZp a0 jaK jaR ja1 jcp jbc jg6 ja3 jbH jaT jbO jaq jac jbI jbl jle jba jaa jbA x1 jle jjI jkf jiE jl8 x2 x3 q9 x4 x5 x10 x11 jaT jbb jbr jaR jff jaR jcB jcC jbo jbp jbk jbj jbf jbq jbE jbm jbi jcd jbb cyI jbQ jjI cyI f6 jkf cyI f7 jg6 jiM jmr jiM cyI jk5 jiE cyI f8 jl8 cyI f12 a2 cyJ n2 f2) H1 := hP.sub [1, 2, 3, 4, 5, 6, 7, 8, 9, 10, 11, 0] rfl
  have hD : va_D A (qZp a0 jaK jaR ja1 jcp jbc jg6 ja3 jbH jaT jbO jaq jac jbI jbl jle jba jaa jbA x1 jle jjI jkf jiE jl8 x2 x3 q9 x4 x5 x10 x11 jaT jbb jbr jaR jff jaR jcB jcC jbo jbp jbk jbj jbf jbq jbE jbm jbi jcd jbb cyI jbQ jjI cyI f6 jkf cyI f7 jg6 jiM jmr jiM cyI jk5 jiE cyI f8 jl8 cyI f12 a2 cyJ n2 f2) := hD.sub [1, 2, 3, 4, 5, 6, 7, 8, 9, 10, 11, 0] (by decide) rfl
  generalize H1 = H at hP hS ⊢
  refine lv_i2l (v := r13.toInt64) hx hb (qaa qtb 5 rfl) rfl ?_
  refine lv_topl (fun x14 ex14 => ?_)
  have hw := hw x14 ex14
  obtain ⟨hi9, hw⟩ := hw
  refine va_last hx hb hK hP hD hS 11 2 rfl rfl hi9 (qaa qtb 6 rfl) (fun H locs hP hD hS => ?_)
  obtain ⟨f15, ef15⟩ : ∃ y : Nat → Int64, y = vp_updL f2 (0 : Int32).toNatClampNeg x14 := ⟨_, rfl⟩
  have hw := hw f15 ef15
  have hP : va_P (dC, dI) vwCl (qZp a0 jaK jaR ja1 jcp jbc jg6 ja3 jbH jaT jbO jaq jac jbI jbl jle jba jaa jbA x1 jle jjI jkf jiE jl8 x2 x3 q9 x4 x5 x10 x11 jaT jbb jbr jaR jff jaR jcB jcC jbo jbp jbk jbj jbf jbq jbE jbm jbi jcd jbb cyI jbQ jjI cyI f6 jkf cyI f7 jg6 jiM jmr jiM cyI jk5 jiE cyI f8 jl8 cyI f12 a2 cyJ n2 f15) H := by rw [ef15]; exact hP
  have hD : va_D A (qZp a0 jaK jaR ja1 jcp jbc jg6 ja3 jbH jaT jbO jaq jac jbI jbl jle jba jaa jbA x1 jle jjI jkf jiE jl8 x2 x3 q9 x4 x5 x10 x11 jaT jbb jbr jaR jff jaR jcB jcC jbo jbp jbk jbj jbf jbq jbE jbm jbi jcd jbb cyI jbQ jjI cyI f6 jkf cyI f7 jg6 jiM jmr jiM cyI jk5 jiE cyI f8 jl8 cyI f12 a2 cyJ n2 f15) := by rw [ef15]; exact hD
  refine lv_goto (tgt := 15) hx hb (qaa qtb 7 rfl) (by decide) ?_
  refine lv_iconst (v := 0) hx hb (qaa qtb 11 rfl) (by decide) ?_
  exact (W.widen (k := 1) (n := 6) (nbq rfl) (nbq rfl) (W.iret (v := 0) hx hb hr (fun t ht hW => ⟨⟨0, (x1, x2, x3, x4, x5, f6, f7, f8, q9, x10, x11, f12, f15), rfl, hw, by rw [ht]; exact hP, va_K.moved hW.alike hK, hD⟩, hS.F ht⟩) hS.2.2 (qaa qtb 12 rfl)))
theorem qaav : (.constant RX1 167 (1103515245) : Cond) ∈ wsX1_nextSeed := qaNu 4045 (by decide +kernel)
set_option maxHeartbeats 4000000 in
set_option maxRecDepth 100000 in
theorem qTV (l : Launch) (dC : Nat → ClassId) (dI : Nat → Nat → Nat) (cyB cyI cyJ cyP : ClassId) (sz : Nat) (p0 : Int32) {Q : Int32 → Prop} (hw : qEn p0 Q) : Met l yX1_nextSeed wsX1_nextSeed ({ frames := 0, cells := 0, slots := 0, locals := 0 }) (va_Pc [.int p0] (cPc (dC, dI) (kT cyB cyI cyJ cyP) [] sz)) (va_Qi (fun (r : Int32) (_ : Unit) => Q r ) (cB (dC, dI) (kT cyB cyI cyJ cyP) (va_A [] sz) (fun u : Unit => ([] : va_W))) (va_A [] sz)) 0 0 (va_A [] sz) := by
  refine Met.ofW (cc := cX1_nextSeed) (maxL := 1) (ret := (some .int)) (by decide) rfl ?_
  intro p e s m args below meth c s₁ B hml hv
  obtain ⟨rfl, hsz, hP, hK, hD0, hNw⟩ := hv
  have hx := B.exec
  have hb := B.bytes
  have hr := B.returns
  have hts := atoms_spec (ws := wsX1_nextSeed) B.pre
  have hown : s.vm.findClass RX1 = some m.cls := findClass_of_methodNamed B.named
  have hlocks := B.notSynchronized
  subst hsz
  have hD := hD0.self (sz := s.heap.size)
  generalize hAe : va_A [] s.heap.size = A at hD ⊢
  have hA : ∀ q : Nat, s.heap.size ≤ q → A q := fun q h => by rw [← hAe]; exact Or.inr h
  have hS : va_S A s.heap s.heap [] := va_S.rf
  have hP : va_P (dC, dI) vwCl [] s.heap := hP
  have hl := lv_entry ([.int p0]) (n := 1) (nbq rfl)
  rw [lg_entry_eq]
  generalize (lg_sl ([.int p0]) ++ List.replicate (1 - (lg_sl ([.int p0])).length) Slot.unset).toArray = ls at hl ⊢
  have hl : lv_has ls 1 [(0, .int p0)] := hl
  have C0 : cfx p s m _ meth c cX1_nextSeed (some .int) wsX1_nextSeed RX1 1 A (dC, dI) (kT cyB cyI cyJ cyP) := ⟨hx, hb, hr, hts, hown, hlocks, hml, hA, hK, hNw⟩
  clear hAe
  obtain ⟨H, hH⟩ : ∃ H, H = s.heap := ⟨_, rfl⟩
  rw [← hH] at hP ⊢
  have hS : va_S A s.heap H [] := by rw [hH]; exact va_S.rf
  have hS := hS
  refine lv_iload_n hx hb (qaa qwB 0 rfl) rfl (lv_at hl 0 rfl) ?_
  refine lv_ldc (v := 1103515245) hx hb hown (hts _ qaav) (qaa qwB 1 rfl) ?_
  refine lv_imul hx hb (qaa qwB 2 rfl) ?_
  refine lv_sipush (v := 12345) hx hb (qaa qwB 3 rfl) (by decide) ?_
  refine lv_iadd hx hb (qaa qwB 4 rfl) ?_
  exact ((W.iret (v := ((p0 * 1103515245) + 12345)) hx hb hr (fun t ht hW => ⟨⟨((p0 * 1103515245) + 12345), (), rfl, hw, by rw [ht]; exact hP, va_K.moved hW.alike hK, hD⟩, hS.F ht⟩) hS.2.2 (qaa qwB 5 rfl)))
set_option maxHeartbeats 4000000 in
set_option maxRecDepth 100000 in
theorem qPl (l : Launch) (dC : Nat → ClassId) (dI : Nat → Nat → Nat) (cyB cyI cyJ cyP : ClassId) (sz : Nat) (p0 : Int32) {Q : Int32 → Prop} (hw : qB3 p0 Q) : Met l yX1_drawnBits wsX1_drawnBits ({ frames := 0, cells := 0, slots := 0, locals := 0 }) (va_Pc [.int p0] (cPc (dC, dI) (kT cyB cyI cyJ cyP) [] sz)) (va_Qi (fun (r : Int32) (_ : Unit) => Q r ) (cB (dC, dI) (kT cyB cyI cyJ cyP) (va_A [] sz) (fun u : Unit => ([] : va_W))) (va_A [] sz)) 0 0 (va_A [] sz) := by
  refine Met.ofW (cc := cX1_drawnBits) (maxL := 1) (ret := (some .int)) (by decide) rfl ?_
  intro p e s m args below meth c s₁ B hml hv
  obtain ⟨rfl, hsz, hP, hK, hD0, hNw⟩ := hv
  have hx := B.exec
  have hb := B.bytes
  have hr := B.returns
  have hts := atoms_spec (ws := wsX1_drawnBits) B.pre
  have hown : s.vm.findClass RX1 = some m.cls := findClass_of_methodNamed B.named
  have hlocks := B.notSynchronized
  subst hsz
  have hD := hD0.self (sz := s.heap.size)
  generalize hAe : va_A [] s.heap.size = A at hD ⊢
  have hA : ∀ q : Nat, s.heap.size ≤ q → A q := fun q h => by rw [← hAe]; exact Or.inr h
  have hS : va_S A s.heap s.heap [] := va_S.rf
  have hP : va_P (dC, dI) vwCl [] s.heap := hP
  have hl := lv_entry ([.int p0]) (n := 1) (nbq rfl)
  rw [lg_entry_eq]
  generalize (lg_sl ([.int p0]) ++ List.replicate (1 - (lg_sl ([.int p0])).length) Slot.unset).toArray = ls at hl ⊢
  have hl : lv_has ls 1 [(0, .int p0)] := hl
  have C0 : cfx p s m _ meth c cX1_drawnBits (some .int) wsX1_drawnBits RX1 1 A (dC, dI) (kT cyB cyI cyJ cyP) := ⟨hx, hb, hr, hts, hown, hlocks, hml, hA, hK, hNw⟩
  clear hAe
  obtain ⟨H, hH⟩ : ∃ H, H = s.heap := ⟨_, rfl⟩
  rw [← hH] at hP ⊢
  have hS : va_S A s.heap H [] := by rw [hH]; exact va_S.rf
  have hS := hS
  refine lv_iload_n hx hb (qaa qvv 0 rfl) rfl (lv_at hl 0 rfl) ?_
  refine lv_bipush (v := 16) hx hb (qaa qvv 1 rfl) (by decide) ?_
  refine lv_iushr (v := (p0.toUInt32 >>> ((16 : Int32).toUInt32 &&& Int32.toUInt32 31)).toInt32) hx hb (qaa qvv 2 rfl) rfl ?_
  refine lv_topi (fun x1 ex1 => ?_)
  have hw := hw x1 ex1
  refine lv_sipush (v := 32767) hx hb (qaa qvv 3 rfl) (by decide) ?_
  refine lv_iand hx hb (qaa qvv 4 rfl) ?_
  exact ((W.iret (v := (x1 &&& 32767)) hx hb hr (fun t ht hW => ⟨⟨(x1 &&& 32767), (), rfl, hw, by rw [ht]; exact hP, va_K.moved hW.alike hK, hD⟩, hS.F ht⟩) hS.2.2 (qaa qvv 5 rfl)))
theorem qagL : ∀ w ∈ u_ws RX1 TX1 4, w ∈ wsX1_stir := uiM qaTi qWg (by decide +kernel)
theorem q8l : (.fieldLink RX1 13 "MarchHares$Days" "row" "[I" : Cond) ∈ wsX1_stir := qaTi 276 (by decide +kernel)
set_option maxHeartbeats 4000000 in
set_option maxRecDepth 100000 in
theorem qanW (l : Launch) (dC : Nat → ClassId) (dI : Nat → Nat → Nat) (cyB cyI cyJ cyP : ClassId) (a0 jch sz : Nat) (jcD ji6 jhx : Value) (jdE : NI) (p1 : Int32) {Q : NI → Prop} (hw : qOw jdE p1 Q) : Met l yX1_stir wsX1_stir ({ frames := 0, cells := 0, slots := 0, locals := 0 }) (va_Pc [.ref a0, .int p1] (cPc (dC, dI) (kT cyB cyI cyJ cyP) (qbQ a0 jch jcD ji6 jhx jch cyI jdE) sz)) (va_Qv (fun (u : NI) => Q u) (cB (dC, dI) (kT cyB cyI cyJ cyP) (va_A (qbQ a0 jch jcD ji6 jhx jch cyI jdE) sz) (fun u : NI => ((qbQ a0 jch jcD ji6 jhx jch cyI u) : va_W))) (va_A (qbQ a0 jch jcD ji6 jhx jch cyI jdE) sz)) 0 0 (va_A (qbQ a0 jch jcD ji6 jhx jch cyI jdE) sz) := by
  refine Met.ofW (cc := cX1_stir) (maxL := 2) (ret := none) (by decide) rfl ?_
  intro p e s m args below meth c s₁ B hml hv
  obtain ⟨rfl, hsz, hP, hK, hD0, hNw⟩ := hv
  have hx := B.exec
  have hb := B.bytes
  have hr := B.returns
  have hts := atoms_spec (ws := wsX1_stir) B.pre
  have hown : s.vm.findClass RX1 = some m.cls := findClass_of_methodNamed B.named
  have hlocks := B.notSynchronized
  subst hsz
  have hD := hD0.self (sz := s.heap.size)
  generalize hAe : va_A (qbQ a0 jch jcD ji6 jhx jch cyI jdE) s.heap.size = A at hD ⊢
  have hA : ∀ q : Nat, s.heap.size ≤ q → A q := fun q h => by rw [← hAe]; exact Or.inr h
  have hS : va_S A s.heap s.heap [] := va_S.rf
  have hP : va_P (dC, dI) vwCl (qbQ a0 jch jcD ji6 jhx jch cyI jdE) s.heap := hP
  have hl := lv_entry ([.ref a0, .int p1]) (n := 2) (nbq rfl)
  rw [lg_entry_eq]
  generalize (lg_sl ([.ref a0, .int p1]) ++ List.replicate (2 - (lg_sl ([.ref a0, .int p1])).length) Slot.unset).toArray = ls at hl ⊢
  have hl : lv_has ls 2 [(0, .ref a0), (1, .int p1)] := hl
  have C0 : cfx p s m _ meth c cX1_stir none wsX1_stir RX1 2 A (dC, dI) (kT cyB cyI cyJ cyP) := ⟨hx, hb, hr, hts, hown, hlocks, hml, hA, hK, hNw⟩
  clear hAe
  obtain ⟨H, hH⟩ : ∃ H, H = s.heap := ⟨_, rfl⟩
  rw [← hH] at hP ⊢
  have hS : va_S A s.heap H [] := by rw [hH]; exact va_S.rf
  have hS := hS
  refine lv_aload_n hx hb (qaa qoo 0 rfl) rfl (lv_at hl 0 rfl) ?_
  refine va_get (D := (dC, dI)) (ci := 1) (v := .ref jch) (C := RX1) (T := TX1) (N := 4) hx hb hts qagL hown hK hP 0 rfl rfl 0 (by decide) (hts _ q8l) (fun _ h9 => h9) rfl (qaa qoo 1 rfl) ?_
  refine lv_bipush (v := 16) hx hb (qaa qoo 2 rfl) (by decide) ?_
  refine lv_iload_n hx hb (qaa qoo 3 rfl) rfl (lv_at hl 1 rfl) ?_
  refine lv_iadd hx hb (qaa qoo 4 rfl) ?_
  refine lv_topi (fun x1 ex1 => ?_)
  have hw := hw x1 ex1
  refine lv_iconst (v := 0) hx hb (qaa qoo 5 rfl) (by decide) ?_
  obtain ⟨hi9, hw⟩ := hw
  refine va_iast hx hb hK hP hD hS 1 1 rfl rfl hi9 (qaa qoo 6 rfl) (fun H locs hP hD hS => ?_)
  obtain ⟨f2, ef2⟩ : ∃ y : NI, y = upd jdE x1.toNatClampNeg 0 := ⟨_, rfl⟩
  have hw := hw f2 ef2
  have hP : va_P (dC, dI) vwCl (qbQ a0 jch jcD ji6 jhx jch cyI f2) H := by rw [ef2]; exact hP
  have hD : va_D A (qbQ a0 jch jcD ji6 jhx jch cyI f2) := by rw [ef2]; exact hD
  refine lv_aload_n hx hb (qaa qoo 7 rfl) rfl (lv_at hl 0 rfl) ?_
  refine va_get (D := (dC, dI)) (ci := 1) (v := .ref jch) (C := RX1) (T := TX1) (N := 4) hx hb hts qagL hown hK hP 0 rfl rfl 0 (by decide) (hts _ q8l) (fun _ h9 => h9) rfl (qaa qoo 8 rfl) ?_
  refine lv_iconst (v := 3) hx hb (qaa qoo 9 rfl) (by decide) ?_
  refine lv_dup2_11 hx hb (qaa qoo 10 rfl) rfl rfl ?_
  refine va_iald hx hb hK hP 1 1 rfl rfl (vin (by decide)) (qaa qoo 11 rfl) ?_
  refine lv_topi (fun x3 ex3 => ?_)
  have hw := hw x3 ex3
  refine lv_iconst (v := 1) hx hb (qaa qoo 12 rfl) (by decide) ?_
  refine lv_iload_n hx hb (qaa qoo 13 rfl) rfl (lv_at hl 1 rfl) ?_
  refine lv_ishl hx hb (qaa qoo 14 rfl) ?_
  refine lv_ior hx hb (qaa qoo 15 rfl) ?_
  refine lv_topi (fun x4 ex4 => ?_)
  have hw := hw x4 ex4
  refine va_iast hx hb hK hP hD hS 1 1 rfl rfl (vin (by decide)) (qaa qafX 0 rfl) (fun H locs hP hD hS => ?_)
  obtain ⟨f5, ef5⟩ : ∃ y : NI, y = upd f2 (3 : Int32).toNatClampNeg x4 := ⟨_, rfl⟩
  have hw := hw f5 ef5
  have hP : va_P (dC, dI) vwCl (qbQ a0 jch jcD ji6 jhx jch cyI f5) H := by rw [ef5]; exact hP
  have hD : va_D A (qbQ a0 jch jcD ji6 jhx jch cyI f5) := by rw [ef5]; exact hD
  exact ((W.vret hx hb hr (fun t ht hW => ⟨⟨(f5), rfl, hw, by rw [ht]; exact hP, va_K.moved hW.alike hK, hD⟩, hS.F ht⟩) hS.2.2 (qaa qafX 1 rfl)))
theorem q1N : ∀ w ∈ u_ws RX1 TX1 4, w ∈ wsX1_leapTo := uiM qXP qWg (by decide +kernel)
theorem qZJ : (.fieldLink RX1 13 "MarchHares$Days" "row" "[I" : Cond) ∈ wsX1_leapTo := qXP 276 (by decide +kernel)
set_option maxHeartbeats 4000000 in
set_option maxRecDepth 100000 in
theorem qaom (l : Launch) (dC : Nat → ClassId) (dI : Nat → Nat → Nat) (cyB cyI cyJ cyP : ClassId) (a0 jch sz : Nat) (jcD ji6 jhx : Value) (jdE : NI) (p1 p2 : Int32) {Q : NI → Prop} (hw : qLa jdE p1 p2 Q) : Met l yX1_leapTo wsX1_leapTo ({ frames := 1, cells := 0, slots := 0, locals := 21 }) (va_Pc [.ref a0, .int p1, .int p2] (cPc (dC, dI) (kT cyB cyI cyJ cyP) (qbQ a0 jch jcD ji6 jhx jch cyI jdE) sz)) (va_Qv (fun (u : NI) => Q u) (cB (dC, dI) (kT cyB cyI cyJ cyP) (va_A (qbQ a0 jch jcD ji6 jhx jch cyI jdE) sz) (fun u : NI => ((qbQ a0 jch jcD ji6 jhx jch cyI u) : va_W))) (va_A (qbQ a0 jch jcD ji6 jhx jch cyI jdE) sz)) 0 0 (va_A (qbQ a0 jch jcD ji6 jhx jch cyI jdE) sz) := by
  refine Met.ofW (cc := cX1_leapTo) (maxL := 3) (ret := none) (by decide) rfl ?_
  intro p e s m args below meth c s₁ B hml hv
  obtain ⟨rfl, hsz, hP, hK, hD0, hNw⟩ := hv
  have hx := B.exec
  have hb := B.bytes
  have hr := B.returns
  have hts := atoms_spec (ws := wsX1_leapTo) B.pre
  have hown : s.vm.findClass RX1 = some m.cls := findClass_of_methodNamed B.named
  have hlocks := B.notSynchronized
  subst hsz
  have hD := hD0.self (sz := s.heap.size)
  generalize hAe : va_A (qbQ a0 jch jcD ji6 jhx jch cyI jdE) s.heap.size = A at hD ⊢
  have hA : ∀ q : Nat, s.heap.size ≤ q → A q := fun q h => by rw [← hAe]; exact Or.inr h
  have hS : va_S A s.heap s.heap [] := va_S.rf
  have hP : va_P (dC, dI) vwCl (qbQ a0 jch jcD ji6 jhx jch cyI jdE) s.heap := hP
  have hl := lv_entry ([.ref a0, .int p1, .int p2]) (n := 3) (nbq rfl)
  rw [lg_entry_eq]
  generalize (lg_sl ([.ref a0, .int p1, .int p2]) ++ List.replicate (3 - (lg_sl ([.ref a0, .int p1, .int p2])).length) Slot.unset).toArray = ls at hl ⊢
  have hl : lv_has ls 3 [(0, .ref a0), (1, .int p1), (2, .int p2)] := hl
  have C0 : cfx p s m _ meth c cX1_leapTo none wsX1_leapTo RX1 3 A (dC, dI) (kT cyB cyI cyJ cyP) := ⟨hx, hb, hr, hts, hown, hlocks, hml, hA, hK, hNw⟩
  clear hAe
  obtain ⟨H, hH⟩ : ∃ H, H = s.heap := ⟨_, rfl⟩
  rw [← hH] at hP ⊢
  have hS : va_S A s.heap H [] := by rw [hH]; exact va_S.rf
  have hS := hS
  refine lv_aload_n hx hb (qaa qjM 0 rfl) rfl (lv_at hl 0 rfl) ?_
  refine va_get (D := (dC, dI)) (ci := 1) (v := .ref jch) (C := RX1) (T := TX1) (N := 4) hx hb hts q1N hown hK hP 0 rfl rfl 0 (by decide) (hts _ qZJ) (fun _ h9 => h9) rfl (qaa qjM 1 rfl) ?_
  refine lv_iconst (v := 4) hx hb (qaa qjM 2 rfl) (by decide) ?_
  refine lv_iload_n hx hb (qaa qjM 3 rfl) rfl (lv_at hl 1 rfl) ?_
  refine lv_iadd hx hb (qaa qjM 4 rfl) ?_
  refine lv_topi (fun x1 ex1 => ?_)
  have hw := hw x1 ex1
  refine lv_iload_n hx hb (qaa qjM 5 rfl) rfl (lv_at hl 2 rfl) ?_
  obtain ⟨hi9, hw⟩ := hw
  refine va_iast hx hb hK hP hD hS 1 1 rfl rfl hi9 (qaa qjM 6 rfl) (fun H locs hP hD hS => ?_)
  obtain ⟨f2, ef2⟩ : ∃ y : NI, y = upd jdE x1.toNatClampNeg p2 := ⟨_, rfl⟩
  have hw := hw f2 ef2
  have hP : va_P (dC, dI) vwCl (qbQ a0 jch jcD ji6 jhx jch cyI f2) H := by rw [ef2]; exact hP
  have hD : va_D A (qbQ a0 jch jcD ji6 jhx jch cyI f2) := by rw [ef2]; exact hD
  refine lv_aload_n hx hb (qaa qjM 7 rfl) rfl (lv_at hl 0 rfl) ?_
  refine va_get (D := (dC, dI)) (ci := 1) (v := .ref jch) (C := RX1) (T := TX1) (N := 4) hx hb hts q1N hown hK hP 0 rfl rfl 0 (by decide) (hts _ qZJ) (fun _ h9 => h9) rfl (qaa qjM 8 rfl) ?_
  refine lv_bipush (v := 22) hx hb (qaa qjM 9 rfl) (by decide) ?_
  refine lv_iload_n hx hb (qaa qjM 10 rfl) rfl (lv_at hl 1 rfl) ?_
  refine lv_iadd hx hb (qaa qjM 11 rfl) ?_
  refine lv_topi (fun x3 ex3 => ?_)
  have hw := hw x3 ex3
  refine lv_dup2_11 hx hb (qaa qjM 12 rfl) rfl rfl ?_
  obtain ⟨hi9, hw⟩ := hw
  refine va_iald hx hb hK hP 1 1 rfl rfl hi9 (qaa qjM 13 rfl) ?_
  refine lv_topi (fun x4 ex4 => ?_)
  have hw := hw x4 ex4
  refine lv_iconst (v := 1) hx hb (qaa qjM 14 rfl) (by decide) ?_
  refine lv_iadd hx hb (qaa qjM 15 rfl) ?_
  refine lv_topi (fun x5 ex5 => ?_)
  have hw := hw x5 ex5
  obtain ⟨hi9, hw⟩ := hw
  refine va_iast hx hb hK hP hD hS 1 1 rfl rfl hi9 (qaa qCg 0 rfl) (fun H locs hP hD hS => ?_)
  obtain ⟨f6, ef6⟩ : ∃ y : NI, y = upd f2 x3.toNatClampNeg x5 := ⟨_, rfl⟩
  have hw := hw f6 ef6
  have hP : va_P (dC, dI) vwCl (qbQ a0 jch jcD ji6 jhx jch cyI f6) H := by rw [ef6]; exact hP
  have hD : va_D A (qbQ a0 jch jcD ji6 jhx jch cyI f6) := by rw [ef6]; exact hD
  refine lv_aload_n hx hb (qaa qCg 1 rfl) rfl (lv_at hl 0 rfl) ?_
  refine lv_iload_n hx hb (qaa qCg 2 rfl) rfl (lv_at hl 1 rfl) ?_
  obtain ⟨hCc, hPc, hDc, hFc⟩ := qac (ws' := (qbQ a0 jch jcD ji6 jhx jch cyI f6)) hP hD hS hA [0, 1] (by decide +kernel) rfl
  refine va_callv (va_runV (As := [.int p1]) (rest := []) ⟨hx, hb, hml, hown, hts⟩ (qanW l dC dI cyB cyI cyJ cyP a0 jch H.size (jcD) (ji6) (jhx) f6 p1 hw) (cwV 1 hts gX1_leapTo_X1_stir rfl rfl rfl (by decide +kernel) ⟨nbq rfl, nbq rfl⟩) ⟨qab, va_recv (q := (RX1, TX1, 4)) hK hPc (ci := 1) (q0 := 0) rfl rfl, qae hPc hK hDc hNw⟩ rfl rfl hl.1 rfl (lv_room (nbq rfl)) (qaa qCg 3 rfl) ⟨nbq rfl, nbq rfl⟩) hS (fun q _ h => hFc q h) hFc (fun u t H1 locs ht hvm hw hB hz1 hk1 hS => ?_)
  obtain ⟨f7, rfl⟩ : ∃ z, z = u := ⟨_, rfl⟩
  obtain ⟨hP1, hK1, hD1⟩ := hB
  rw [ht] at hP1
  obtain ⟨hP, hD⟩ := qah (wr := []) (w1 := (qbQ a0 jch jcD ji6 jhx jch cyI f7)) (wn := (qbQ a0 jch jcD ji6 jhx jch cyI f7)) hP hD [0, 1] [] hCc rfl (by decide +kernel) (by decide +kernel) rfl hk1 hFc hP1 hD1
  generalize H1 = H at hP hS ⊢
  exact ((W.vret hx hb hr (fun t ht hW => ⟨⟨(f7), rfl, hw, by rw [ht]; exact hP, va_K.moved hW.alike hK, hD⟩, hS.F ht⟩) hS.2.2 (qaa qCg 4 rfl)))
set_option maxHeartbeats 4000000 in
set_option maxRecDepth 100000 in
theorem qaab (l : Launch) (dC : Nat → ClassId) (dI : Nat → Nat → Nat) (cyB cyI cyJ cyP : ClassId) (a0 jch jfB jjJ jjK jk3 ji0 jjb ji1 jiJ sz : Nat) (jcD jgk jgl jgm jgz jfV jgn jgO jfW jiB : Value) (jc6 : Int32) (jlh jli : NI) (jj9 : Int32) (jkK jkj jlg jlp jdE : NI) (p1 p2 : Int32) {Q : Int32 → NI → NI → NI → Prop} (hw : qF2 jc6 jlh jli jj9 jkK jkj jlg jlp jdE p1 p2 Q) : Met l yX1_leapIfAllowed wsX1_leapIfAllowed ({ frames := 4, cells := 0, slots := 0, locals := 99 }) (va_Pc [.ref a0, .int p1, .int p2] (cPc (dC, dI) (kT cyB cyI cyJ cyP) (qPF a0 jch jcD jfB jk3 jch cyI jdE jfB jjJ jjK jgk jgl jgm jgz jfV jgn jgO jc6 jfW jiB jjJ cyI jlh jjK cyI jli jk3 ji1 jiJ jjb ji0 jj9 ji0 cyI jlg jjb cyI jlp ji1 cyI jkK jiJ cyI jkj) sz)) (va_Qi (fun (r : Int32) (u : NI × NI × NI) => Q r u.1 u.2.1 u.2.2) (cB (dC, dI) (kT cyB cyI cyJ cyP) (va_A (qPF a0 jch jcD jfB jk3 jch cyI jdE jfB jjJ jjK jgk jgl jgm jgz jfV jgn jgO jc6 jfW jiB jjJ cyI jlh jjK cyI jli jk3 ji1 jiJ jjb ji0 jj9 ji0 cyI jlg jjb cyI jlp ji1 cyI jkK jiJ cyI jkj) sz) (fun u : NI × NI × NI => ((qPF a0 jch jcD jfB jk3 jch cyI u.2.2 jfB jjJ jjK jgk jgl jgm jgz jfV jgn jgO jc6 jfW jiB jjJ cyI jlh jjK cyI jli jk3 ji1 jiJ jjb ji0 jj9 ji0 cyI u.1 jjb cyI u.2.1 ji1 cyI jkK jiJ cyI jkj) : va_W))) (va_A (qPF a0 jch jcD jfB jk3 jch cyI jdE jfB jjJ jjK jgk jgl jgm jgz jfV jgn jgO jc6 jfW jiB jjJ cyI jlh jjK cyI jli jk3 ji1 jiJ jjb ji0 jj9 ji0 cyI jlg jjb cyI jlp ji1 cyI jkK jiJ cyI jkj) sz)) 0 0 (va_A (qPF a0 jch jcD jfB jk3 jch cyI jdE jfB jjJ jjK jgk jgl jgm jgz jfV jgn jgO jc6 jfW jiB jjJ cyI jlh jjK cyI jli jk3 ji1 jiJ jjb ji0 jj9 ji0 cyI jlg jjb cyI jlp ji1 cyI jkK jiJ cyI jkj) sz) := by
  refine Met.ofW (cc := cX1_leapIfAllowed) (maxL := 3) (ret := (some .int)) (by decide) rfl ?_
  intro p e s m args below meth c s₁ B hml hv
  obtain ⟨rfl, hsz, hP, hK, hD0, hNw⟩ := hv
  have hx := B.exec
  have hb := B.bytes
  have hr := B.returns
  have hts := atoms_spec (ws := wsX1_leapIfAllowed) B.pre
  have hown : s.vm.findClass RX1 = some m.cls := findClass_of_methodNamed B.named
  have hlocks := B.notSynchronized
  subst hsz
  have hD := hD0.self (sz := s.heap.size)
  generalize hAe : va_A (qPF a0 jch jcD jfB jk3 jch cyI jdE jfB jjJ jjK jgk jgl jgm jgz jfV jgn jgO jc6 jfW jiB jjJ cyI jlh jjK cyI jli jk3 ji1 jiJ jjb ji0 jj9 ji0 cyI jlg jjb cyI jlp ji1 cyI jkK jiJ cyI jkj) s.heap.size = A at hD ⊢
  have hA : ∀ q : Nat, s.heap.size ≤ q → A q := fun q h => by rw [← hAe]; exact Or.inr h
  have hS : va_S A s.heap s.heap [] := va_S.rf
  have hP : va_P (dC, dI) vwCl (qPF a0 jch jcD jfB jk3 jch cyI jdE jfB jjJ jjK jgk jgl jgm jgz jfV jgn jgO jc6 jfW jiB jjJ cyI jlh jjK cyI jli jk3 ji1 jiJ jjb ji0 jj9 ji0 cyI jlg jjb cyI jlp ji1 cyI jkK jiJ cyI jkj) s.heap := hP
  have hl := lv_entry ([.ref a0, .int p1, .int p2]) (n := 3) (nbq rfl)
  rw [lg_entry_eq]
  generalize (lg_sl ([.ref a0, .int p1, .int p2]) ++ List.replicate (3 - (lg_sl ([.ref a0, .int p1, .int p2])).length) Slot.unset).toArray = ls at hl ⊢
  have hl : lv_has ls 3 [(0, .ref a0), (1, .int p1), (2, .int p2)] := hl
  have C0 : cfx p s m _ meth c cX1_leapIfAllowed (some .int) wsX1_leapIfAllowed RX1 3 A (dC, dI) (kT cyB cyI cyJ cyP) := ⟨hx, hb, hr, hts, hown, hlocks, hml, hA, hK, hNw⟩
  clear hAe
  obtain ⟨H, hH⟩ : ∃ H, H = s.heap := ⟨_, rfl⟩
  rw [← hH] at hP ⊢
  have hS : va_S A s.heap H [] := by rw [hH]; exact va_S.rf
  have hS := hS
  refine lv_aload_n hx hb (qaa qdC 0 rfl) rfl (lv_at hl 0 rfl) ?_
  refine lv_iload_n hx hb (qaa qdC 1 rfl) rfl (lv_at hl 1 rfl) ?_
  refine lv_iload_n hx hb (qaa qdC 2 rfl) rfl (lv_at hl 2 rfl) ?_
  obtain ⟨hCc, hPc, hDc, hFc⟩ := qac (ws' := (qPF a0 jch jcD jfB jk3 jch cyI jdE jfB jjJ jjK jgk jgl jgm jgz jfV jgn jgO jc6 jfW jiB jjJ cyI jlh jjK cyI jli jk3 ji1 jiJ jjb ji0 jj9 ji0 cyI jlg jjb cyI jlp ji1 cyI jkK jiJ cyI jkj)) hP hD hS hA [0, 1, 2, 3, 4, 5, 6, 7, 8, 9] (by decide +kernel) rfl
  refine va_calli (va_runV (As := [.int p1, .int p2]) (rest := []) ⟨hx, hb, hml, hown, hts⟩ (qRq l dC dI cyB cyI cyJ cyP a0 jch jfB jjJ jjK jk3 ji0 jjb ji1 jiJ H.size (jcD) (jgk) (jgl) (jgm) (jgz) (jfV) (jgn) (jgO) (jfW) (jiB) jdE jc6 jlh jli jj9 jkK jkj jlg jlp p1 p2 hw) (cwV 2 hts gX1_leapIfAllowed_X1_couldLeap rfl rfl rfl (by decide +kernel) ⟨nbq rfl, nbq rfl⟩) ⟨qab, va_recv (q := (RX1, TX1, 4)) hK hPc (ci := 1) (q0 := 0) rfl rfl, qae hPc hK hDc hNw⟩ rfl rfl hl.1 rfl (lv_room (nbq rfl)) (qaa qdC 3 rfl) ⟨nbq rfl, nbq rfl⟩) hS (fun q _ h => hFc q h) hFc (fun r3 u t H1 locs ht hvm hw hB hz1 hk1 hS => ?_)
  obtain ⟨f1, f2⟩ := u
  obtain ⟨hP1, hK1, hD1⟩ := hB
  rw [ht] at hP1
  obtain ⟨hP, hD⟩ := qah (wr := []) (w1 := (qPF a0 jch jcD jfB jk3 jch cyI jdE jfB jjJ jjK jgk jgl jgm jgz jfV jgn jgO jc6 jfW jiB jjJ cyI jlh jjK cyI jli jk3 ji1 jiJ jjb ji0 jj9 ji0 cyI f1 jjb cyI f2 ji1 cyI jkK jiJ cyI jkj)) (wn := (qPF a0 jch jcD jfB jk3 jch cyI jdE jfB jjJ jjK jgk jgl jgm jgz jfV jgn jgO jc6 jfW jiB jjJ cyI jlh jjK cyI jli jk3 ji1 jiJ jjb ji0 jj9 ji0 cyI f1 jjb cyI f2 ji1 cyI jkK jiJ cyI jkj)) hP hD [0, 1, 2, 3, 4, 5, 6, 7, 8, 9] [] hCc rfl (by decide +kernel) (by decide +kernel) rfl hk1 hFc hP1 hD1
  generalize H1 = H at hP hS ⊢
  refine lv_if_ne (tgt := 11) hx hb (qaa qdC 4 rfl) (by decide) (fun c4 => ?_) (fun c4 => ?_)
  · have hw := hw.1 c4
    refine lv_aload_n hx hb (qaa qdC 7 rfl) rfl (lv_at hl 0 rfl) ?_
    refine lv_iload_n hx hb (qaa qdC 8 rfl) rfl (lv_at hl 1 rfl) ?_
    refine lv_iload_n hx hb (qaa qdC 9 rfl) rfl (lv_at hl 2 rfl) ?_
    obtain ⟨hCc, hPc, hDc, hFc⟩ := qac (ws' := (qGV a0 jch jcD jfB jk3 jch cyI jdE)) hP hD hS hA [0, 1] (by decide +kernel) rfl
    refine va_callv (va_runV (As := [.int p1, .int p2]) (rest := []) ⟨hx, hb, hml, hown, hts⟩ (qaom l dC dI cyB cyI cyJ cyP a0 jch H.size (jcD) (.ref jfB) (.ref jk3) jdE p1 p2 hw) (cwV 2 hts gX1_leapIfAllowed_X1_leapTo rfl rfl rfl (by decide +kernel) ⟨nbq rfl, nbq rfl⟩) ⟨qab, va_recv (q := (RX1, TX1, 4)) hK hPc (ci := 1) (q0 := 0) rfl rfl, qae hPc hK hDc hNw⟩ rfl rfl hl.1 rfl (lv_room (nbq rfl)) (qaa qdC 10 rfl) ⟨nbq rfl, nbq rfl⟩) hS (fun q _ h => hFc q h) hFc (fun u t H1 locs ht hvm hw hB hz1 hk1 hS => ?_)
    obtain ⟨f5, rfl⟩ : ∃ z, z = u := ⟨_, rfl⟩
    obtain ⟨hP1, hK1, hD1⟩ := hB
    rw [ht] at hP1
    obtain ⟨hP, hD⟩ := qad (wr := [(jfB, .inr (2, [.ref jjJ, .ref jjK, jgk, jgl, jgm, jgz, jfV, jgn, jgO, .int jc6, jfW, jiB])), (jjJ, .inl (cyI, 8, .inl jlh)), (jjK, .inl (cyI, 8, .inl jli)), (jk3, .inr (4, [.ref ji1, .ref jiJ, .ref jjb, .ref ji0, .int jj9])), (ji0, .inl (cyI, 8, .inl f1)), (jjb, .inl (cyI, 150, .inl f2)), (ji1, .inl (cyI, 150, .inl jkK)), (jiJ, .inl (cyI, 150, .inl jkj))]) (w1 := (qGV a0 jch jcD jfB jk3 jch cyI f5)) (wn := (qPF a0 jch jcD jfB jk3 jch cyI f5 jfB jjJ jjK jgk jgl jgm jgz jfV jgn jgO jc6 jfW jiB jjJ cyI jlh jjK cyI jli jk3 ji1 jiJ jjb ji0 jj9 ji0 cyI f1 jjb cyI f2 ji1 cyI jkK jiJ cyI jkj)) hP hD [0, 1] [2, 3, 4, 5, 6, 7, 8, 9] [8, 9, 0, 1, 2, 3, 4, 5, 6, 7] hCc rfl (by decide +kernel) (by decide +kernel) (by decide +kernel) rfl hk1 hFc hP1 hD1
    generalize H1 = H at hP hS ⊢
    refine lv_iconst (v := 1) hx hb (qaa qdC 11 rfl) (by decide) ?_
    exact ((W.iret (v := 1) hx hb hr (fun t ht hW => ⟨⟨1, (f1, f2, f5), rfl, hw, by rw [ht]; exact hP, va_K.moved hW.alike hK, hD⟩, hS.F ht⟩) hS.2.2 (qaa qdC 12 rfl)))
  · have hw := hw.2 c4
    refine lv_iconst (v := 0) hx hb (qaa qdC 5 rfl) (by decide) ?_
    exact ((W.iret (v := 0) hx hb hr (fun t ht hW => ⟨⟨0, (f1, f2, jdE), rfl, hw, by rw [ht]; exact hP, va_K.moved hW.alike hK, hD⟩, hS.F ht⟩) hS.2.2 (qaa qdC 6 rfl)))
set_option maxHeartbeats 4000000 in
set_option maxRecDepth 100000 in
theorem qZg (l : Launch) (dC : Nat → ClassId) (dI : Nat → Nat → Nat) (cyB cyI cyJ cyP : ClassId) (a0 jch sz : Nat) (jcD ji6 jhx : Value) (jdE : NI) (p1 p2 : Int32) {Q : Int32 → Prop} (hw : qAd jdE p1 p2 Q) : Met l yX1_couldFight wsX1_couldFight ({ frames := 1, cells := 0, slots := 0, locals := 21 }) (va_Pc [.ref a0, .int p1, .int p2] (cPc (dC, dI) (kT cyB cyI cyJ cyP) (qbQ a0 jch jcD ji6 jhx jch cyI jdE) sz)) (va_Qi (fun (r : Int32) (_ : Unit) => Q r ) (cB (dC, dI) (kT cyB cyI cyJ cyP) (va_A (qbQ a0 jch jcD ji6 jhx jch cyI jdE) sz) (fun u : Unit => ((qbQ a0 jch jcD ji6 jhx jch cyI jdE) : va_W))) (va_A (qbQ a0 jch jcD ji6 jhx jch cyI jdE) sz)) 0 0 (va_A (qbQ a0 jch jcD ji6 jhx jch cyI jdE) sz) := by
  refine Met.ofW (cc := cX1_couldFight) (maxL := 3) (ret := (some .boolean)) (by decide) rfl ?_
  intro p e s m args below meth c s₁ B hml hv
  obtain ⟨rfl, hsz, hP, hK, hD0, hNw⟩ := hv
  have hx := B.exec
  have hb := B.bytes
  have hr := B.returns
  have hts := atoms_spec (ws := wsX1_couldFight) B.pre
  have hown : s.vm.findClass RX1 = some m.cls := findClass_of_methodNamed B.named
  have hlocks := B.notSynchronized
  subst hsz
  have hD := hD0.self (sz := s.heap.size)
  generalize hAe : va_A (qbQ a0 jch jcD ji6 jhx jch cyI jdE) s.heap.size = A at hD ⊢
  have hA : ∀ q : Nat, s.heap.size ≤ q → A q := fun q h => by rw [← hAe]; exact Or.inr h
  have hS : va_S A s.heap s.heap [] := va_S.rf
  have hP : va_P (dC, dI) vwCl (qbQ a0 jch jcD ji6 jhx jch cyI jdE) s.heap := hP
  have hl := lv_entry ([.ref a0, .int p1, .int p2]) (n := 3) (nbq rfl)
  rw [lg_entry_eq]
  generalize (lg_sl ([.ref a0, .int p1, .int p2]) ++ List.replicate (3 - (lg_sl ([.ref a0, .int p1, .int p2])).length) Slot.unset).toArray = ls at hl ⊢
  have hl : lv_has ls 3 [(0, .ref a0), (1, .int p1), (2, .int p2)] := hl
  have C0 : cfx p s m _ meth c cX1_couldFight (some .boolean) wsX1_couldFight RX1 3 A (dC, dI) (kT cyB cyI cyJ cyP) := ⟨hx, hb, hr, hts, hown, hlocks, hml, hA, hK, hNw⟩
  clear hAe
  obtain ⟨H, hH⟩ : ∃ H, H = s.heap := ⟨_, rfl⟩
  rw [← hH] at hP ⊢
  have hS : va_S A s.heap H [] := by rw [hH]; exact va_S.rf
  have hS := hS
  refine lv_iload_n hx hb (qaa qc6 0 rfl) rfl (lv_at hl 1 rfl) ?_
  refine lv_iload_n hx hb (qaa qc6 1 rfl) rfl (lv_at hl 2 rfl) ?_
  refine lv_icmp_eq (tgt := 38) hx hb (qaa qc6 2 rfl) (by decide) (fun c1 => ?_) (fun c1 => ?_)
  · have hw := hw.1 c1
    refine lv_iconst (v := 0) hx hb (qaa qe7 4 rfl) (by decide) ?_
    exact ((W.zret (v := 0) hx hb hr rfl (fun t ht hW => ⟨⟨0, (), rfl, hw, by rw [ht]; exact hP, va_K.moved hW.alike hK, hD⟩, hS.F ht⟩) hS.2.2 (qaa qe7 5 rfl)))
  · have hw := hw.2 c1
    refine lv_aload_n hx hb (qaa qc6 3 rfl) rfl (lv_at hl 0 rfl) ?_
    refine lv_iload_n hx hb (qaa qc6 4 rfl) rfl (lv_at hl 1 rfl) ?_
    obtain ⟨hCc, hPc, hDc, hFc⟩ := qac (ws' := (qbQ a0 jch jcD ji6 jhx jch cyI jdE)) hP hD hS hA [0, 1] (by decide +kernel) rfl
    refine va_calli (va_runV (As := [.int p1]) (rest := []) ⟨hx, hb, hml, hown, hts⟩ (qia l dC dI cyB cyI cyJ cyP a0 jch H.size (jcD) (ji6) (jhx) jdE p1 hw) (cwV 1 hts gX1_couldFight_X1_isCaught rfl rfl rfl (by decide +kernel) ⟨nbq rfl, nbq rfl⟩) ⟨qab, va_recv (q := (RX1, TX1, 4)) hK hPc (ci := 1) (q0 := 0) rfl rfl, qae hPc hK hDc hNw⟩ rfl rfl hl.1 rfl (lv_room (nbq rfl)) (qaa qc6 5 rfl) ⟨nbq rfl, nbq rfl⟩) hS (fun q _ h => hFc q h) hFc (fun r2 u t H1 locs ht hvm hw hB hz1 hk1 hS => ?_)
    obtain ⟨hP1, hK1, hD1⟩ := hB
    rw [ht] at hP1
    obtain ⟨hP, hD⟩ := qah (wr := []) (w1 := (qbQ a0 jch jcD ji6 jhx jch cyI jdE)) (wn := (qbQ a0 jch jcD ji6 jhx jch cyI jdE)) hP hD [0, 1] [] hCc rfl (by decide +kernel) (by decide +kernel) rfl hk1 hFc hP1 hD1
    generalize H1 = H at hP hS ⊢
    refine lv_if_ne (tgt := 38) hx hb (qaa qc6 6 rfl) (by decide) (fun c3 => ?_) (fun c3 => ?_)
    · have hw := hw.1 c3
      refine lv_iconst (v := 0) hx hb (qaa qe7 4 rfl) (by decide) ?_
      exact ((W.zret (v := 0) hx hb hr rfl (fun t ht hW => ⟨⟨0, (), rfl, hw, by rw [ht]; exact hP, va_K.moved hW.alike hK, hD⟩, hS.F ht⟩) hS.2.2 (qaa qe7 5 rfl)))
    · have hw := hw.2 c3
      refine lv_aload_n hx hb (qaa qc6 7 rfl) rfl (lv_at hl 0 rfl) ?_
      refine lv_iload_n hx hb (qaa qc6 8 rfl) rfl (lv_at hl 2 rfl) ?_
      obtain ⟨hCc, hPc, hDc, hFc⟩ := qac (ws' := (qbQ a0 jch jcD ji6 jhx jch cyI jdE)) hP hD hS hA [0, 1] (by decide +kernel) rfl
      refine va_calli (va_runV (As := [.int p2]) (rest := []) ⟨hx, hb, hml, hown, hts⟩ (qia l dC dI cyB cyI cyJ cyP a0 jch H.size (jcD) (ji6) (jhx) jdE p2 hw) (cwV 1 hts gX1_couldFight_X1_isCaught rfl rfl rfl (by decide +kernel) ⟨nbq rfl, nbq rfl⟩) ⟨qab, va_recv (q := (RX1, TX1, 4)) hK hPc (ci := 1) (q0 := 0) rfl rfl, qae hPc hK hDc hNw⟩ rfl rfl hl.1 rfl (lv_room (nbq rfl)) (qaa qc6 9 rfl) ⟨nbq rfl, nbq rfl⟩) hS (fun q _ h => hFc q h) hFc (fun r4 u t H1 locs ht hvm hw hB hz1 hk1 hS => ?_)
      obtain ⟨hP1, hK1, hD1⟩ := hB
      rw [ht] at hP1
      obtain ⟨hP, hD⟩ := qah (wr := []) (w1 := (qbQ a0 jch jcD ji6 jhx jch cyI jdE)) (wn := (qbQ a0 jch jcD ji6 jhx jch cyI jdE)) hP hD [0, 1] [] hCc rfl (by decide +kernel) (by decide +kernel) rfl hk1 hFc hP1 hD1
      generalize H1 = H at hP hS ⊢
      refine lv_if_ne (tgt := 38) hx hb (qaa qc6 10 rfl) (by decide) (fun c5 => ?_) (fun c5 => ?_)
      · have hw := hw.1 c5
        refine lv_iconst (v := 0) hx hb (qaa qe7 4 rfl) (by decide) ?_
        exact ((W.zret (v := 0) hx hb hr rfl (fun t ht hW => ⟨⟨0, (), rfl, hw, by rw [ht]; exact hP, va_K.moved hW.alike hK, hD⟩, hS.F ht⟩) hS.2.2 (qaa qe7 5 rfl)))
      · have hw := hw.2 c5
        refine lv_aload_n hx hb (qaa qc6 11 rfl) rfl (lv_at hl 0 rfl) ?_
        refine lv_iload_n hx hb (qaa qc6 12 rfl) rfl (lv_at hl 1 rfl) ?_
        obtain ⟨hCc, hPc, hDc, hFc⟩ := qac (ws' := (qbQ a0 jch jcD ji6 jhx jch cyI jdE)) hP hD hS hA [0, 1] (by decide +kernel) rfl
        refine va_calli (va_runV (As := [.int p1]) (rest := []) ⟨hx, hb, hml, hown, hts⟩ (qvw l dC dI cyB cyI cyJ cyP a0 jch H.size (jcD) (ji6) (jhx) jdE p1 hw) (cwV 1 hts gX1_couldFight_X1_sits rfl rfl rfl (by decide +kernel) ⟨nbq rfl, nbq rfl⟩) ⟨qab, va_recv (q := (RX1, TX1, 4)) hK hPc (ci := 1) (q0 := 0) rfl rfl, qae hPc hK hDc hNw⟩ rfl rfl hl.1 rfl (lv_room (nbq rfl)) (qaa qc6 13 rfl) ⟨nbq rfl, nbq rfl⟩) hS (fun q _ h => hFc q h) hFc (fun r6 u t H1 locs ht hvm hw hB hz1 hk1 hS => ?_)
        obtain ⟨hP1, hK1, hD1⟩ := hB
        rw [ht] at hP1
        obtain ⟨hP, hD⟩ := qah (wr := []) (w1 := (qbQ a0 jch jcD ji6 jhx jch cyI jdE)) (wn := (qbQ a0 jch jcD ji6 jhx jch cyI jdE)) hP hD [0, 1] [] hCc rfl (by decide +kernel) (by decide +kernel) rfl hk1 hFc hP1 hD1
        generalize H1 = H at hP hS ⊢
        refine lv_aload_n hx hb (qaa qc6 14 rfl) rfl (lv_at hl 0 rfl) ?_
        refine lv_iload_n hx hb (qaa qc6 15 rfl) rfl (lv_at hl 2 rfl) ?_
        obtain ⟨hCc, hPc, hDc, hFc⟩ := qac (ws' := (qbQ a0 jch jcD ji6 jhx jch cyI jdE)) hP hD hS hA [0, 1] (by decide +kernel) rfl
        refine va_calli (va_runV (As := [.int p2]) (rest := [.int r6]) ⟨hx, hb, hml, hown, hts⟩ (qvw l dC dI cyB cyI cyJ cyP a0 jch H.size (jcD) (ji6) (jhx) jdE p2 hw) (cwV 1 hts gX1_couldFight_X1_sits rfl rfl rfl (by decide +kernel) ⟨nbq rfl, nbq rfl⟩) ⟨qab, va_recv (q := (RX1, TX1, 4)) hK hPc (ci := 1) (q0 := 0) rfl rfl, qae hPc hK hDc hNw⟩ rfl rfl hl.1 rfl (lv_room (nbq rfl)) (qaa qe7 0 rfl) ⟨nbq rfl, nbq rfl⟩) hS (fun q _ h => hFc q h) hFc (fun r7 u t H1 locs ht hvm hw hB hz1 hk1 hS => ?_)
        obtain ⟨hP1, hK1, hD1⟩ := hB
        rw [ht] at hP1
        obtain ⟨hP, hD⟩ := qah (wr := []) (w1 := (qbQ a0 jch jcD ji6 jhx jch cyI jdE)) (wn := (qbQ a0 jch jcD ji6 jhx jch cyI jdE)) hP hD [0, 1] [] hCc rfl (by decide +kernel) (by decide +kernel) rfl hk1 hFc hP1 hD1
        generalize H1 = H at hP hS ⊢
        refine lv_icmp_ne (tgt := 38) hx hb (qaa qe7 1 rfl) (by decide) (fun c8 => ?_) (fun c8 => ?_)
        · have hw := hw.1 c8
          refine lv_iconst (v := 0) hx hb (qaa qe7 4 rfl) (by decide) ?_
          exact ((W.zret (v := 0) hx hb hr rfl (fun t ht hW => ⟨⟨0, (), rfl, hw, by rw [ht]; exact hP, va_K.moved hW.alike hK, hD⟩, hS.F ht⟩) hS.2.2 (qaa qe7 5 rfl)))
        · have hw := hw.2 c8
          refine lv_iconst (v := 1) hx hb (qaa qe7 2 rfl) (by decide) ?_
          refine lv_goto (tgt := 39) hx hb (qaa qe7 3 rfl) (by decide) ?_
          exact ((W.zret (v := 1) hx hb hr rfl (fun t ht hW => ⟨⟨1, (), rfl, hw, by rw [ht]; exact hP, va_K.moved hW.alike hK, hD⟩, hS.F ht⟩) hS.2.2 (qaa qe7 5 rfl)))
theorem qaGz : ∀ w ∈ u_ws RX1 TX1 4, w ∈ wsX1_fight := uiM qAG qWg (by decide +kernel)
theorem qaAg : (.fieldLink RX1 13 "MarchHares$Days" "row" "[I" : Cond) ∈ wsX1_fight := qAG 276 (by decide +kernel)
theorem qapl : (.initialized "java/lang/Math" : Cond) ∈ wsX1_fight := qAG 651 (by decide +kernel)
theorem qarG : (.methodLink RX1 115 Lib.Math.max.name : Cond) ∈ wsX1_fight := qAG 2003 (by decide +kernel)
theorem qame : (.code Lib.Math.max.name Lib.Math.max.code 2 (some .int) : Cond) ∈ wsX1_fight := qAG 1931 (by decide +kernel)
theorem qan0 : (.static Lib.Math.max.name : Cond) ∈ wsX1_fight := qAG 1930 (by decide +kernel)
set_option maxHeartbeats 4000000 in
set_option maxRecDepth 100000 in
theorem q7E {p : Program} {l : Launch} {e : Env} {s : State} {m : MethodId} {args : Array Value} {below : List Frame} {meth : Method} {c : Code} {A : Nat → Prop} (dC : Nat → ClassId) (dI : Nat → Nat → Nat) (cyB cyI cyJ cyP : ClassId) (a0 jch : Nat) (jcD ji6 jhx : Value) (Q : NI → Prop) (C0 : cfx p s m args meth c cX1_fight none wsX1_fight RX1 4 A (dC, dI) (kT cyB cyI cyJ cyP)) : ∀ (H : Heap) (locs : List Loc) (ls : Array Slot) (jdE : NI) (l1 l2 s0 : Int32), va_P (dC, dI) vwCl (qbQ a0 jch jcD ji6 jhx jch cyI jdE) H → va_D A (qbQ a0 jch jcD ji6 jhx jch cyI jdE) → va_S A s.heap H locs → lv_has ls 4 [(0, .ref a0), (1, .int l1), (2, .int l2)] → qEo Q jdE l1 l2 s0 → W p l e (headSpec wsX1_fight ({ frames := 1, cells := 0, slots := 0, locals := 32 })).room s m args below meth c H locs 0 0 (MQ below (va_Qv (fun (u : NI) => Q u) (cB (dC, dI) (kT cyB cyI cyJ cyP) A (fun u : NI => ((qbQ a0 jch jcD ji6 jhx jch cyI u) : va_W))) A) args s 0 0 A) (F0 m 18 ls [.int s0]) := by
  obtain ⟨hx, hb, hr, hts, hown, hlocks, hml, hA, hK, hNw⟩ := id C0
  intro H locs ls jdE l1 l2 s0 hP hD hS hl hw
  refine lv_istore_n (lv' := [(3, .int s0), (0, .ref a0), (1, .int l1), (2, .int l2)]) hx hb (qaa qlP 10 rfl) rfl hl (by decide) rfl (fun ls hl => ?_)
  refine lv_aload_n hx hb (qaa qlP 11 rfl) rfl (lv_at hl 1 rfl) ?_
  refine va_get (D := (dC, dI)) (ci := 1) (v := .ref jch) (C := RX1) (T := TX1) (N := 4) hx hb hts qaGz hown hK hP 0 rfl rfl 0 (by decide) (hts _ qaAg) (fun _ h9 => h9) rfl (qaa qlP 12 rfl) ?_
  refine lv_bipush (v := 10) hx hb (qaa qlP 13 rfl) (by decide) ?_
  refine lv_iload_n hx hb (qaa qlP 14 rfl) rfl (lv_at hl 0 rfl) ?_
  refine lv_iadd hx hb (qaa qlP 15 rfl) ?_
  refine lv_topi (fun x4 ex4 => ?_)
  have hw := hw x4 ex4
  refine lv_iconst (v := 0) hx hb (qaa qla 0 rfl) (by decide) ?_
  refine lv_aload_n hx hb (qaa qla 1 rfl) rfl (lv_at hl 1 rfl) ?_
  refine lv_iload_n hx hb (qaa qla 2 rfl) rfl (lv_at hl 0 rfl) ?_
  obtain ⟨hCc, hPc, hDc, hFc⟩ := qac (ws' := (qbQ a0 jch jcD ji6 jhx jch cyI jdE)) hP hD hS hA [0, 1] (by decide +kernel) rfl
  refine va_calli (va_runV (As := [.int s0]) (rest := [.int 0, .int x4, .ref jch]) ⟨hx, hb, hml, hown, hts⟩ (qsD l dC dI cyB cyI cyJ cyP a0 jch H.size (jcD) (ji6) (jhx) jdE s0 hw) (cwV 1 hts gX1_fight_X1_strong rfl rfl rfl (by decide +kernel) ⟨nbq rfl, nbq rfl⟩) ⟨qab, va_recv (q := (RX1, TX1, 4)) hK hPc (ci := 1) (q0 := 0) rfl rfl, qae hPc hK hDc hNw⟩ rfl rfl hl.1 rfl (lv_room (nbq rfl)) (qaa qla 3 rfl) ⟨nbq rfl, nbq rfl⟩) hS (fun q _ h => hFc q h) hFc (fun r5 u t H1 locs ht hvm hw hB hz1 hk1 hS => ?_)
  obtain ⟨hP1, hK1, hD1⟩ := hB
  rw [ht] at hP1
  obtain ⟨hP, hD⟩ := qah (wr := []) (w1 := (qbQ a0 jch jcD ji6 jhx jch cyI jdE)) (wn := (qbQ a0 jch jcD ji6 jhx jch cyI jdE)) hP hD [0, 1] [] hCc rfl (by decide +kernel) (by decide +kernel) rfl hk1 hFc hP1 hD1
  generalize H1 = H at hP hS ⊢
  refine lv_iconst (v := 1) hx hb (qaa qla 4 rfl) (by decide) ?_
  refine lv_isub hx hb (qaa qla 5 rfl) ?_
  refine va_mmax hx hb (by rw [hml]; exact hl.1.symm) hown (hts _ qarG) (hts _ qan0) (hts _ qapl) (hts _ qame) (nbq rfl) (nbq rfl) (nbq rfl) (nbq rfl) (qaa qla 6 rfl) ?_
  refine lv_topi (fun x6 ex6 => ?_)
  have hw := hw x6 ex6
  obtain ⟨hi9, hw⟩ := hw
  refine va_iast hx hb hK hP hD hS 1 1 rfl rfl hi9 (qaa qla 7 rfl) (fun H locs hP hD hS => ?_)
  obtain ⟨f7, ef7⟩ : ∃ y : NI, y = upd jdE x4.toNatClampNeg x6 := ⟨_, rfl⟩
  have hw := hw f7 ef7
  have hP : va_P (dC, dI) vwCl (qbQ a0 jch jcD ji6 jhx jch cyI f7) H := by rw [ef7]; exact hP
  have hD : va_D A (qbQ a0 jch jcD ji6 jhx jch cyI f7) := by rw [ef7]; exact hD
  refine lv_aload_n hx hb (qaa qla 8 rfl) rfl (lv_at hl 1 rfl) ?_
  refine lv_iload_n hx hb (qaa qla 9 rfl) rfl (lv_at hl 2 rfl) ?_
  obtain ⟨hCc, hPc, hDc, hFc⟩ := qac (ws' := (qbQ a0 jch jcD ji6 jhx jch cyI f7)) hP hD hS hA [0, 1] (by decide +kernel) rfl
  refine va_callv (va_runV (As := [.int l1]) (rest := []) ⟨hx, hb, hml, hown, hts⟩ (qanW l dC dI cyB cyI cyJ cyP a0 jch H.size (jcD) (ji6) (jhx) f7 l1 hw) (cwV 1 hts gX1_fight_X1_stir rfl rfl rfl (by decide +kernel) ⟨nbq rfl, nbq rfl⟩) ⟨qab, va_recv (q := (RX1, TX1, 4)) hK hPc (ci := 1) (q0 := 0) rfl rfl, qae hPc hK hDc hNw⟩ rfl rfl hl.1 rfl (lv_room (nbq rfl)) (qaa qla 10 rfl) ⟨nbq rfl, nbq rfl⟩) hS (fun q _ h => hFc q h) hFc (fun u t H1 locs ht hvm hw hB hz1 hk1 hS => ?_)
  obtain ⟨f8, rfl⟩ : ∃ z, z = u := ⟨_, rfl⟩
  obtain ⟨hP1, hK1, hD1⟩ := hB
  rw [ht] at hP1
  obtain ⟨hP, hD⟩ := qah (wr := []) (w1 := (qbQ a0 jch jcD ji6 jhx jch cyI f8)) (wn := (qbQ a0 jch jcD ji6 jhx jch cyI f8)) hP hD [0, 1] [] hCc rfl (by decide +kernel) (by decide +kernel) rfl hk1 hFc hP1 hD1
  generalize H1 = H at hP hS ⊢
  refine lv_aload_n hx hb (qaa qla 11 rfl) rfl (lv_at hl 1 rfl) ?_
  refine lv_iload_n hx hb (qaa qla 12 rfl) rfl (lv_at hl 3 rfl) ?_
  obtain ⟨hCc, hPc, hDc, hFc⟩ := qac (ws' := (qbQ a0 jch jcD ji6 jhx jch cyI f8)) hP hD hS hA [0, 1] (by decide +kernel) rfl
  refine va_callv (va_runV (As := [.int l2]) (rest := []) ⟨hx, hb, hml, hown, hts⟩ (qanW l dC dI cyB cyI cyJ cyP a0 jch H.size (jcD) (ji6) (jhx) f8 l2 hw) (cwV 1 hts gX1_fight_X1_stir rfl rfl rfl (by decide +kernel) ⟨nbq rfl, nbq rfl⟩) ⟨qab, va_recv (q := (RX1, TX1, 4)) hK hPc (ci := 1) (q0 := 0) rfl rfl, qae hPc hK hDc hNw⟩ rfl rfl hl.1 rfl (lv_room (nbq rfl)) (qaa qla 13 rfl) ⟨nbq rfl, nbq rfl⟩) hS (fun q _ h => hFc q h) hFc (fun u t H1 locs ht hvm hw hB hz1 hk1 hS => ?_)
  obtain ⟨f9, rfl⟩ : ∃ z, z = u := ⟨_, rfl⟩
  obtain ⟨hP1, hK1, hD1⟩ := hB
  rw [ht] at hP1
  obtain ⟨hP, hD⟩ := qah (wr := []) (w1 := (qbQ a0 jch jcD ji6 jhx jch cyI f9)) (wn := (qbQ a0 jch jcD ji6 jhx jch cyI f9)) hP hD [0, 1] [] hCc rfl (by decide +kernel) (by decide +kernel) rfl hk1 hFc hP1 hD1
  generalize H1 = H at hP hS ⊢
  exact ((W.vret hx hb hr (fun t ht hW => ⟨⟨(f9), rfl, hw, by rw [ht]; exact hP, va_K.moved hW.alike hK, hD⟩, hS.F ht⟩) hS.2.2 (qaa qla 14 rfl)))
set_option maxHeartbeats 4000000 in
set_option maxRecDepth 100000 in
theorem qax7 (l : Launch) (dC : Nat → ClassId) (dI : Nat → Nat → Nat) (cyB cyI cyJ cyP : ClassId) (a0 jch sz : Nat) (jcD ji6 jhx : Value) (jdE : NI) (p1 p2 : Int32) {Q : NI → Prop} (hw : qPm jdE p1 p2 Q) : Met l yX1_fight wsX1_fight ({ frames := 1, cells := 0, slots := 0, locals := 32 }) (va_Pc [.ref a0, .int p1, .int p2] (cPc (dC, dI) (kT cyB cyI cyJ cyP) (qbQ a0 jch jcD ji6 jhx jch cyI jdE) sz)) (va_Qv (fun (u : NI) => Q u) (cB (dC, dI) (kT cyB cyI cyJ cyP) (va_A (qbQ a0 jch jcD ji6 jhx jch cyI jdE) sz) (fun u : NI => ((qbQ a0 jch jcD ji6 jhx jch cyI u) : va_W))) (va_A (qbQ a0 jch jcD ji6 jhx jch cyI jdE) sz)) 0 0 (va_A (qbQ a0 jch jcD ji6 jhx jch cyI jdE) sz) := by
  refine Met.ofW (cc := cX1_fight) (maxL := 4) (ret := none) (by decide) rfl ?_
  intro p e s m args below meth c s₁ B hml hv
  obtain ⟨rfl, hsz, hP, hK, hD0, hNw⟩ := hv
  have hx := B.exec
  have hb := B.bytes
  have hr := B.returns
  have hts := atoms_spec (ws := wsX1_fight) B.pre
  have hown : s.vm.findClass RX1 = some m.cls := findClass_of_methodNamed B.named
  have hlocks := B.notSynchronized
  subst hsz
  have hD := hD0.self (sz := s.heap.size)
  generalize hAe : va_A (qbQ a0 jch jcD ji6 jhx jch cyI jdE) s.heap.size = A at hD ⊢
  have hA : ∀ q : Nat, s.heap.size ≤ q → A q := fun q h => by rw [← hAe]; exact Or.inr h
  have hS : va_S A s.heap s.heap [] := va_S.rf
  have hP : va_P (dC, dI) vwCl (qbQ a0 jch jcD ji6 jhx jch cyI jdE) s.heap := hP
  have hl := lv_entry ([.ref a0, .int p1, .int p2]) (n := 4) (nbq rfl)
  rw [lg_entry_eq]
  generalize (lg_sl ([.ref a0, .int p1, .int p2]) ++ List.replicate (4 - (lg_sl ([.ref a0, .int p1, .int p2])).length) Slot.unset).toArray = ls at hl ⊢
  have hl : lv_has ls 4 [(0, .ref a0), (1, .int p1), (2, .int p2)] := hl
  have C0 : cfx p s m _ meth c cX1_fight none wsX1_fight RX1 4 A (dC, dI) (kT cyB cyI cyJ cyP) := ⟨hx, hb, hr, hts, hown, hlocks, hml, hA, hK, hNw⟩
  clear hAe
  obtain ⟨H, hH⟩ : ∃ H, H = s.heap := ⟨_, rfl⟩
  rw [← hH] at hP ⊢
  have hS : va_S A s.heap H [] := by rw [hH]; exact va_S.rf
  have hS := hS
  refine lv_aload_n hx hb (qaa qlP 0 rfl) rfl (lv_at hl 0 rfl) ?_
  refine lv_iload_n hx hb (qaa qlP 1 rfl) rfl (lv_at hl 1 rfl) ?_
  obtain ⟨hCc, hPc, hDc, hFc⟩ := qac (ws' := (qbQ a0 jch jcD ji6 jhx jch cyI jdE)) hP hD hS hA [0, 1] (by decide +kernel) rfl
  refine va_calli (va_runV (As := [.int p1]) (rest := []) ⟨hx, hb, hml, hown, hts⟩ (qsD l dC dI cyB cyI cyJ cyP a0 jch H.size (jcD) (ji6) (jhx) jdE p1 hw) (cwV 1 hts gX1_fight_X1_strong rfl rfl rfl (by decide +kernel) ⟨nbq rfl, nbq rfl⟩) ⟨qab, va_recv (q := (RX1, TX1, 4)) hK hPc (ci := 1) (q0 := 0) rfl rfl, qae hPc hK hDc hNw⟩ rfl rfl hl.1 rfl (lv_room (nbq rfl)) (qaa qlP 2 rfl) ⟨nbq rfl, nbq rfl⟩) hS (fun q _ h => hFc q h) hFc (fun r1 u t H1 locs ht hvm hw hB hz1 hk1 hS => ?_)
  obtain ⟨hP1, hK1, hD1⟩ := hB
  rw [ht] at hP1
  obtain ⟨hP, hD⟩ := qah (wr := []) (w1 := (qbQ a0 jch jcD ji6 jhx jch cyI jdE)) (wn := (qbQ a0 jch jcD ji6 jhx jch cyI jdE)) hP hD [0, 1] [] hCc rfl (by decide +kernel) (by decide +kernel) rfl hk1 hFc hP1 hD1
  generalize H1 = H at hP hS ⊢
  refine lv_aload_n hx hb (qaa qlP 3 rfl) rfl (lv_at hl 0 rfl) ?_
  refine lv_iload_n hx hb (qaa qlP 4 rfl) rfl (lv_at hl 2 rfl) ?_
  obtain ⟨hCc, hPc, hDc, hFc⟩ := qac (ws' := (qbQ a0 jch jcD ji6 jhx jch cyI jdE)) hP hD hS hA [0, 1] (by decide +kernel) rfl
  refine va_calli (va_runV (As := [.int p2]) (rest := [.int r1]) ⟨hx, hb, hml, hown, hts⟩ (qsD l dC dI cyB cyI cyJ cyP a0 jch H.size (jcD) (ji6) (jhx) jdE p2 hw) (cwV 1 hts gX1_fight_X1_strong rfl rfl rfl (by decide +kernel) ⟨nbq rfl, nbq rfl⟩) ⟨qab, va_recv (q := (RX1, TX1, 4)) hK hPc (ci := 1) (q0 := 0) rfl rfl, qae hPc hK hDc hNw⟩ rfl rfl hl.1 rfl (lv_room (nbq rfl)) (qaa qlP 5 rfl) ⟨nbq rfl, nbq rfl⟩) hS (fun q _ h => hFc q h) hFc (fun r2 u t H1 locs ht hvm hw hB hz1 hk1 hS => ?_)
  obtain ⟨hP1, hK1, hD1⟩ := hB
  rw [ht] at hP1
  obtain ⟨hP, hD⟩ := qah (wr := []) (w1 := (qbQ a0 jch jcD ji6 jhx jch cyI jdE)) (wn := (qbQ a0 jch jcD ji6 jhx jch cyI jdE)) hP hD [0, 1] [] hCc rfl (by decide +kernel) (by decide +kernel) rfl hk1 hFc hP1 hD1
  generalize H1 = H at hP hS ⊢
  refine lv_icmp_lt (tgt := 17) hx hb (qaa qlP 6 rfl) (by decide) (fun c3 => ?_) (fun c3 => ?_)
  · have hw := hw.1 c3
    refine lv_iload_n hx hb (qaa qlP 9 rfl) rfl (lv_at hl 1 rfl) ?_
    exact q7E dC dI cyB cyI cyJ cyP a0 jch jcD ji6 jhx Q C0 _ _ _ jdE p1 p2 p1 hP hD hS (lv_sub hl [0, 1, 2] rfl) hw
  · have hw := hw.2 c3
    refine lv_iload_n hx hb (qaa qlP 7 rfl) rfl (lv_at hl 2 rfl) ?_
    refine lv_goto (tgt := 18) hx hb (qaa qlP 8 rfl) (by decide) ?_
    exact q7E dC dI cyB cyI cyJ cyP a0 jch jcD ji6 jhx Q C0 _ _ _ jdE p1 p2 p2 hP hD hS (lv_sub hl [0, 1, 2] rfl) hw
set_option maxHeartbeats 4000000 in
set_option maxRecDepth 100000 in
theorem q51 (l : Launch) (dC : Nat → ClassId) (dI : Nat → Nat → Nat) (cyB cyI cyJ cyP : ClassId) (a0 jch sz : Nat) (jcD ji6 jhx : Value) (jdE : NI) (p1 p2 : Int32) {Q : NI → Prop} (hw : qDw jdE p1 p2 Q) : Met l yX1_fightIfAllowed wsX1_fightIfAllowed ({ frames := 2, cells := 0, slots := 0, locals := 55 }) (va_Pc [.ref a0, .int p1, .int p2] (cPc (dC, dI) (kT cyB cyI cyJ cyP) (qbQ a0 jch jcD ji6 jhx jch cyI jdE) sz)) (va_Qv (fun (u : NI) => Q u) (cB (dC, dI) (kT cyB cyI cyJ cyP) (va_A (qbQ a0 jch jcD ji6 jhx jch cyI jdE) sz) (fun u : NI => ((qbQ a0 jch jcD ji6 jhx jch cyI u) : va_W))) (va_A (qbQ a0 jch jcD ji6 jhx jch cyI jdE) sz)) 0 0 (va_A (qbQ a0 jch jcD ji6 jhx jch cyI jdE) sz) := by
  refine Met.ofW (cc := cX1_fightIfAllowed) (maxL := 3) (ret := none) (by decide) rfl ?_
  intro p e s m args below meth c s₁ B hml hv
  obtain ⟨rfl, hsz, hP, hK, hD0, hNw⟩ := hv
  have hx := B.exec
  have hb := B.bytes
  have hr := B.returns
  have hts := atoms_spec (ws := wsX1_fightIfAllowed) B.pre
  have hown : s.vm.findClass RX1 = some m.cls := findClass_of_methodNamed B.named
  have hlocks := B.notSynchronized
  subst hsz
  have hD := hD0.self (sz := s.heap.size)
  generalize hAe : va_A (qbQ a0 jch jcD ji6 jhx jch cyI jdE) s.heap.size = A at hD ⊢
  have hA : ∀ q : Nat, s.heap.size ≤ q → A q := fun q h => by rw [← hAe]; exact Or.inr h
  have hS : va_S A s.heap s.heap [] := va_S.rf
  have hP : va_P (dC, dI) vwCl (qbQ a0 jch jcD ji6 jhx jch cyI jdE) s.heap := hP
  have hl := lv_entry ([.ref a0, .int p1, .int p2]) (n := 3) (nbq rfl)
  rw [lg_entry_eq]
  generalize (lg_sl ([.ref a0, .int p1, .int p2]) ++ List.replicate (3 - (lg_sl ([.ref a0, .int p1, .int p2])).length) Slot.unset).toArray = ls at hl ⊢
  have hl : lv_has ls 3 [(0, .ref a0), (1, .int p1), (2, .int p2)] := hl
  have C0 : cfx p s m _ meth c cX1_fightIfAllowed none wsX1_fightIfAllowed RX1 3 A (dC, dI) (kT cyB cyI cyJ cyP) := ⟨hx, hb, hr, hts, hown, hlocks, hml, hA, hK, hNw⟩
  clear hAe
  obtain ⟨H, hH⟩ : ∃ H, H = s.heap := ⟨_, rfl⟩
  rw [← hH] at hP ⊢
  have hS : va_S A s.heap H [] := by rw [hH]; exact va_S.rf
  have hS := hS
  refine lv_aload_n hx hb (qaa qeZ 0 rfl) rfl (lv_at hl 0 rfl) ?_
  refine lv_iload_n hx hb (qaa qeZ 1 rfl) rfl (lv_at hl 1 rfl) ?_
  refine lv_iload_n hx hb (qaa qeZ 2 rfl) rfl (lv_at hl 2 rfl) ?_
  obtain ⟨hCc, hPc, hDc, hFc⟩ := qac (ws' := (qbQ a0 jch jcD ji6 jhx jch cyI jdE)) hP hD hS hA [0, 1] (by decide +kernel) rfl
  refine va_calli (va_runV (As := [.int p1, .int p2]) (rest := []) ⟨hx, hb, hml, hown, hts⟩ (qZg l dC dI cyB cyI cyJ cyP a0 jch H.size (jcD) (ji6) (jhx) jdE p1 p2 hw) (cwV 2 hts gX1_fightIfAllowed_X1_couldFight rfl rfl rfl (by decide +kernel) ⟨nbq rfl, nbq rfl⟩) ⟨qab, va_recv (q := (RX1, TX1, 4)) hK hPc (ci := 1) (q0 := 0) rfl rfl, qae hPc hK hDc hNw⟩ rfl rfl hl.1 rfl (lv_room (nbq rfl)) (qaa qeZ 3 rfl) ⟨nbq rfl, nbq rfl⟩) hS (fun q _ h => hFc q h) hFc (fun r1 u t H1 locs ht hvm hw hB hz1 hk1 hS => ?_)
  obtain ⟨hP1, hK1, hD1⟩ := hB
  rw [ht] at hP1
  obtain ⟨hP, hD⟩ := qah (wr := []) (w1 := (qbQ a0 jch jcD ji6 jhx jch cyI jdE)) (wn := (qbQ a0 jch jcD ji6 jhx jch cyI jdE)) hP hD [0, 1] [] hCc rfl (by decide +kernel) (by decide +kernel) rfl hk1 hFc hP1 hD1
  generalize H1 = H at hP hS ⊢
  refine lv_if_eq (tgt := 15) hx hb (qaa qeZ 4 rfl) (by decide) (fun c2 => ?_) (fun c2 => ?_)
  · have hw := hw.1 c2
    exact ((W.vret hx hb hr (fun t ht hW => ⟨⟨(jdE), rfl, hw, by rw [ht]; exact hP, va_K.moved hW.alike hK, hD⟩, hS.F ht⟩) hS.2.2 (qaa qeZ 9 rfl)))
  · have hw := hw.2 c2
    refine lv_aload_n hx hb (qaa qeZ 5 rfl) rfl (lv_at hl 0 rfl) ?_
    refine lv_iload_n hx hb (qaa qeZ 6 rfl) rfl (lv_at hl 1 rfl) ?_
    refine lv_iload_n hx hb (qaa qeZ 7 rfl) rfl (lv_at hl 2 rfl) ?_
    obtain ⟨hCc, hPc, hDc, hFc⟩ := qac (ws' := (qbQ a0 jch jcD ji6 jhx jch cyI jdE)) hP hD hS hA [0, 1] (by decide +kernel) rfl
    refine va_callv (va_runV (As := [.int p1, .int p2]) (rest := []) ⟨hx, hb, hml, hown, hts⟩ (qax7 l dC dI cyB cyI cyJ cyP a0 jch H.size (jcD) (ji6) (jhx) jdE p1 p2 hw) (cwV 2 hts gX1_fightIfAllowed_X1_fight rfl rfl rfl (by decide +kernel) ⟨nbq rfl, nbq rfl⟩) ⟨qab, va_recv (q := (RX1, TX1, 4)) hK hPc (ci := 1) (q0 := 0) rfl rfl, qae hPc hK hDc hNw⟩ rfl rfl hl.1 rfl (lv_room (nbq rfl)) (qaa qeZ 8 rfl) ⟨nbq rfl, nbq rfl⟩) hS (fun q _ h => hFc q h) hFc (fun u t H1 locs ht hvm hw hB hz1 hk1 hS => ?_)
    obtain ⟨f3, rfl⟩ : ∃ z, z = u := ⟨_, rfl⟩
    obtain ⟨hP1, hK1, hD1⟩ := hB
    rw [ht] at hP1
    obtain ⟨hP, hD⟩ := qah (wr := []) (w1 := (qbQ a0 jch jcD ji6 jhx jch cyI f3)) (wn := (qbQ a0 jch jcD ji6 jhx jch cyI f3)) hP hD [0, 1] [] hCc rfl (by decide +kernel) (by decide +kernel) rfl hk1 hFc hP1 hD1
    generalize H1 = H at hP hS ⊢
    exact ((W.vret hx hb hr (fun t ht hW => ⟨⟨(f3), rfl, hw, by rw [ht]; exact hP, va_K.moved hW.alike hK, hD⟩, hS.F ht⟩) hS.2.2 (qaa qeZ 9 rfl)))
theorem qyR : ∀ w ∈ u_ws RX1 TX1 4, w ∈ wsX1_drawDays := uiM qnE qWg (by decide +kernel)
theorem qyr : ∀ w ∈ u_ws RX2 TX2 12, w ∈ wsX1_drawDays := uiM qnE qLp (by decide +kernel)
theorem qQF : (.fieldLink RX1 136 "MarchHares$Down" "forms" "I" : Cond) ∈ wsX1_drawDays := qnE 4041 (by decide +kernel)
theorem qw4 : (.fieldLink RX1 24 "MarchHares$Days" "down" "LMarchHares$Down;" : Cond) ∈ wsX1_drawDays := qnE 322 (by decide +kernel)
theorem qIp : (.fieldLink RX1 32 "MarchHares$Down" "hares" "I" : Cond) ∈ wsX1_drawDays := qnE 324 (by decide +kernel)
set_option maxHeartbeats 4000000 in
set_option maxRecDepth 100000 in
theorem qII {p : Program} {l : Launch} {e : Env} {s : State} {m : MethodId} {args : Array Value} {below : List Frame} {meth : Method} {c : Code} {A : Nat → Prop} (dC : Nat → ClassId) (dI : Nat → Nat → Nat) (cyB cyI cyJ cyP : ClassId) (a0 jfB jch jjJ jjK jk3 ji0 jjb ji1 jiJ jip : Nat) (jcD jgk jgl jgm jfV jgn jfW : Value) (jlS jc6 jjn : Int32) (jlh jli : NI) (jj9 : Int32) (jkK jkj jjx : NI) (Q : Int32 → NI → NI → NI → Prop) (K8 : NI → NI → NI → Int32 → Int32 → Int32 → Int32 → Prop) (hK8 : ∀ (H : Heap) (locs : List Loc) (ls : Array Slot) (jlg jlp jdE : NI) (l2 l3 l4 l5 : Int32), va_P (dC, dI) vwCl (qp0 a0 jch jcD jfB jk3 jfB jjJ jjK jgk jgl jgm jip jfV jgn jlS jc6 jfW jjn jch cyI jdE jjJ cyI jlh jjK cyI jli jk3 ji1 jiJ jjb ji0 jj9 ji0 cyI jlg jjb cyI jlp ji1 cyI jkK jiJ cyI jkj jip cyI jjx) H → va_D A (qp0 a0 jch jcD jfB jk3 jfB jjJ jjK jgk jgl jgm jip jfV jgn jlS jc6 jfW jjn jch cyI jdE jjJ cyI jlh jjK cyI jli jk3 ji1 jiJ jjb ji0 jj9 ji0 cyI jlg jjb cyI jlp ji1 cyI jkK jiJ cyI jkj jip cyI jjx) → va_S A s.heap H locs → lv_has ls 7 [(0, .ref a0), (2, .int l2), (3, .int l3), (4, .int l4), (5, .int l5)] → K8 jlg jlp jdE l2 l3 l4 l5 → W p l e (headSpec wsX1_drawDays ({ frames := 5, cells := 0, slots := 0, locals := 121 })).room s m args below meth c H locs 0 0 (MQ below (va_Qi (fun (r : Int32) (u : NI × NI × NI) => Q r u.1 u.2.1 u.2.2) (cB (dC, dI) (kT cyB cyI cyJ cyP) A (fun u : NI × NI × NI => ((qp0 a0 jch jcD jfB jk3 jfB jjJ jjK jgk jgl jgm jip jfV jgn jlS jc6 jfW jjn jch cyI u.2.2 jjJ cyI jlh jjK cyI jli jk3 ji1 jiJ jjb ji0 jj9 ji0 cyI u.1 jjb cyI u.2.1 ji1 cyI jkK jiJ cyI jkj jip cyI jjx) : va_W))) A) args s 0 0 A) (F0 m 8 ls [])) (C0 : cfx p s m args meth c cX1_drawDays (some .int) wsX1_drawDays RX1 7 A (dC, dI) (kT cyB cyI cyJ cyP)) : ∀ (H : Heap) (locs : List Loc) (ls : Array Slot) (jlg jlp jdE : NI) (l2 l3 l4 l5 : Int32), va_P (dC, dI) vwCl (qp0 a0 jch jcD jfB jk3 jfB jjJ jjK jgk jgl jgm jip jfV jgn jlS jc6 jfW jjn jch cyI jdE jjJ cyI jlh jjK cyI jli jk3 ji1 jiJ jjb ji0 jj9 ji0 cyI jlg jjb cyI jlp ji1 cyI jkK jiJ cyI jkj jip cyI jjx) H → va_D A (qp0 a0 jch jcD jfB jk3 jfB jjJ jjK jgk jgl jgm jip jfV jgn jlS jc6 jfW jjn jch cyI jdE jjJ cyI jlh jjK cyI jli jk3 ji1 jiJ jjb ji0 jj9 ji0 cyI jlg jjb cyI jlp ji1 cyI jkK jiJ cyI jkj jip cyI jjx) → va_S A s.heap H locs → lv_has ls 7 [(0, .ref a0), (2, .int l2), (3, .int l3), (4, .int l4), (5, .int l5)] → qxi jlS jc6 jjn jlh jli jj9 jkK jkj jjx Q K8 jlg jlp jdE l2 l3 l4 l5 → W p l e (headSpec wsX1_drawDays ({ frames := 5, cells := 0, slots := 0, locals := 121 })).room s m args below meth c H locs 0 0 (MQ below (va_Qi (fun (r : Int32) (u : NI × NI × NI) => Q r u.1 u.2.1 u.2.2) (cB (dC, dI) (kT cyB cyI cyJ cyP) A (fun u : NI × NI × NI => ((qp0 a0 jch jcD jfB jk3 jfB jjJ jjK jgk jgl jgm jip jfV jgn jlS jc6 jfW jjn jch cyI u.2.2 jjJ cyI jlh jjK cyI jli jk3 ji1 jiJ jjb ji0 jj9 ji0 cyI u.1 jjb cyI u.2.1 ji1 cyI jkK jiJ cyI jkj jip cyI jjx) : va_W))) A) args s 0 0 A) (F0 m 104 ls []) := by
  obtain ⟨hx, hb, hr, hts, hown, hlocks, hml, hA, hK, hNw⟩ := id C0
  intro H locs ls jlg jlp jdE l2 l3 l4 l5 hP hD hS hl hw
  refine lv_aload_n hx hb (qaa qkM 6 rfl) rfl (lv_at hl 0 rfl) ?_
  obtain ⟨hCc, hPc, hDc, hFc⟩ := qac (ws' := (qa7O a0 jch jcD jfB jk3 jfB jjJ jjK jgk jgl jgm jip jfV jgn jlS jc6 jfW jjn jch cyI jdE jip cyI jjx)) hP hD hS hA [0, 1, 2, 10] (by decide +kernel) rfl
  refine va_callv (va_runV (As := []) (rest := []) ⟨hx, hb, hml, hown, hts⟩ (qXA l dC dI cyB cyI cyJ cyP a0 jfB jch jip H.size (jcD) (.ref jk3) (.ref jjJ) (.ref jjK) (jgk) (jgl) (jgm) (jfV) (jgn) (.int jlS) (jfW) jc6 jjn jjx jdE hw) (cwV 0 hts gX1_drawDays_X1_passDay rfl rfl rfl (by decide +kernel) ⟨nbq rfl, nbq rfl⟩) ⟨qab, va_recv (q := (RX1, TX1, 4)) hK hPc (ci := 1) (q0 := 0) rfl rfl, qae hPc hK hDc hNw⟩ rfl rfl hl.1 rfl (lv_room (nbq rfl)) (qaa qkM 7 rfl) ⟨nbq rfl, nbq rfl⟩) hS (fun q _ h => hFc q h) hFc (fun u t H1 locs ht hvm hw hB hz1 hk1 hS => ?_)
  obtain ⟨f19, rfl⟩ : ∃ z, z = u := ⟨_, rfl⟩
  obtain ⟨hP1, hK1, hD1⟩ := hB
  rw [ht] at hP1
  obtain ⟨hP, hD⟩ := qad (wr := [(jjJ, .inl (cyI, 8, .inl jlh)), (jjK, .inl (cyI, 8, .inl jli)), (jk3, .inr (4, [.ref ji1, .ref jiJ, .ref jjb, .ref ji0, .int jj9])), (ji0, .inl (cyI, 8, .inl jlg)), (jjb, .inl (cyI, 150, .inl jlp)), (ji1, .inl (cyI, 150, .inl jkK)), (jiJ, .inl (cyI, 150, .inl jkj))]) (w1 := (qa7O a0 jch jcD jfB jk3 jfB jjJ jjK jgk jgl jgm jip jfV jgn jlS jc6 jfW jjn jch cyI f19 jip cyI jjx)) (wn := (qp0 a0 jch jcD jfB jk3 jfB jjJ jjK jgk jgl jgm jip jfV jgn jlS jc6 jfW jjn jch cyI f19 jjJ cyI jlh jjK cyI jli jk3 ji1 jiJ jjb ji0 jj9 ji0 cyI jlg jjb cyI jlp ji1 cyI jkK jiJ cyI jkj jip cyI jjx)) hP hD [0, 1, 2, 10] [3, 4, 5, 6, 7, 8, 9] [7, 8, 9, 0, 1, 2, 3, 4, 5, 6, 10] hCc rfl (by decide +kernel) (by decide +kernel) (by decide +kernel) rfl hk1 hFc hP1 hD1
  generalize H1 = H at hP hS ⊢
  obtain ⟨x20, ex20⟩ : ∃ y : Int32, y = l5 + 1 := ⟨_, rfl⟩
  have hw := hw x20 ex20
  refine lv_iinc (v := x20) (lv' := [(5, .int x20), (0, .ref a0), (2, .int l2), (3, .int l3), (4, .int l4)]) hx hb (qaa qkM 8 rfl) hl (k := 4) rfl (by rw [ex20]; rfl) (by decide) rfl (fun ls hl => ?_)
  refine lv_goto (tgt := 8) hx hb (qaa qkM 9 rfl) (by decide) ?_
  exact hK8 _ _ _ jlg jlp f19 l2 l3 l4 x20 hP hD hS (lv_sub hl [1, 2, 3, 4, 0] rfl) hw
set_option maxHeartbeats 4000000 in
set_option maxRecDepth 100000 in
theorem qaoJ {p : Program} {l : Launch} {e : Env} {s : State} {m : MethodId} {args : Array Value} {below : List Frame} {meth : Method} {c : Code} {A : Nat → Prop} (dC : Nat → ClassId) (dI : Nat → Nat → Nat) (cyB cyI cyJ cyP : ClassId) (a0 jfB jch jjJ jjK jk3 ji0 jjb ji1 jiJ jip : Nat) (jcD jgk jgl jgm jfV jgn jfW : Value) (jlS jc6 jjn : Int32) (jlh jli : NI) (jj9 : Int32) (jkK jkj jjx : NI) (Q : Int32 → NI → NI → NI → Prop) (C0 : cfx p s m args meth c cX1_drawDays (some .int) wsX1_drawDays RX1 7 A (dC, dI) (kT cyB cyI cyJ cyP)) : ∀ (n : Nat) (H : Heap) (locs : List Loc) (ls : Array Slot) (jlg jlp jdE : NI) (l2 l3 l4 l5 : Int32), va_P (dC, dI) vwCl (qp0 a0 jch jcD jfB jk3 jfB jjJ jjK jgk jgl jgm jip jfV jgn jlS jc6 jfW jjn jch cyI jdE jjJ cyI jlh jjK cyI jli jk3 ji1 jiJ jjb ji0 jj9 ji0 cyI jlg jjb cyI jlp ji1 cyI jkK jiJ cyI jkj jip cyI jjx) H → va_D A (qp0 a0 jch jcD jfB jk3 jfB jjJ jjK jgk jgl jgm jip jfV jgn jlS jc6 jfW jjn jch cyI jdE jjJ cyI jlh jjK cyI jli jk3 ji1 jiJ jjb ji0 jj9 ji0 cyI jlg jjb cyI jlp ji1 cyI jkK jiJ cyI jkj jip cyI jjx) → va_S A s.heap H locs → lv_has ls 7 [(0, .ref a0), (2, .int l2), (3, .int l3), (4, .int l4), (5, .int l5)] → qpw jlS jc6 jjn jlh jli jj9 jkK jkj jjx Q n jlg jlp jdE l2 l3 l4 l5 → W p l e (headSpec wsX1_drawDays ({ frames := 5, cells := 0, slots := 0, locals := 121 })).room s m args below meth c H locs 0 0 (MQ below (va_Qi (fun (r : Int32) (u : NI × NI × NI) => Q r u.1 u.2.1 u.2.2) (cB (dC, dI) (kT cyB cyI cyJ cyP) A (fun u : NI × NI × NI => ((qp0 a0 jch jcD jfB jk3 jfB jjJ jjK jgk jgl jgm jip jfV jgn jlS jc6 jfW jjn jch cyI u.2.2 jjJ cyI jlh jjK cyI jli jk3 ji1 jiJ jjb ji0 jj9 ji0 cyI u.1 jjb cyI u.2.1 ji1 cyI jkK jiJ cyI jkj jip cyI jjx) : va_W))) A) args s 0 0 A) (F0 m 8 ls []) := by
  obtain ⟨hx, hb, hr, hts, hown, hlocks, hml, hA, hK, hNw⟩ := id C0
  intro n
  induction n with
  | zero => intro H locs ls jlg jlp jdE l2 l3 l4 l5 hP hD hS hl hw; exact False.elim hw
  | succ n ih =>
    intro H locs ls jlg jlp jdE l2 l3 l4 l5 hP hD hS hl hw
    refine lv_iload hx hb (qaa qfj 6 rfl) (lv_at hl 4 rfl) ?_
    refine lv_iload_n hx hb (qaa qfj 7 rfl) rfl (lv_at hl 1 rfl) ?_
    refine lv_icmp_ge (tgt := 114) hx hb (qaa qfj 8 rfl) (by decide) (fun c1 => ?_) (fun c1 => ?_)
    · have hw := hw.1 c1
      refine lv_iload hx hb (qaa qkM 10 rfl) (lv_at hl 3 rfl) ?_
      exact ((W.iret (v := l4) hx hb hr (fun t ht hW => ⟨⟨l4, (jlg, jlp, jdE), rfl, hw, by rw [ht]; exact hP, va_K.moved hW.alike hK, hD⟩, hS.F ht⟩) hS.2.2 (qaa qkM 11 rfl)))
    · have hw := hw.2 c1
      refine lv_aload_n hx hb (qaa qfj 9 rfl) rfl (lv_at hl 0 rfl) ?_
      refine va_get (D := (dC, dI)) (ci := 1) (v := .ref jfB) (C := RX1) (T := TX1) (N := 4) hx hb hts qyR hown hK hP 0 rfl rfl 2 (by decide) (hts _ qw4) (fun _ h9 => h9) rfl (qaa qfj 10 rfl) ?_
      refine va_get (D := (dC, dI)) (ci := 2) (v := .int jc6) (C := RX2) (T := TX2) (N := 12) hx hb hts qyr hown hK hP 1 rfl rfl 9 (by decide) (hts _ qIp) (fun _ h9 => h9) rfl (qaa qfj 11 rfl) ?_
      refine lv_if_le (tgt := 104) hx hb (qaa qfj 12 rfl) (by decide) (fun c2 => ?_) (fun c2 => ?_)
      · have hw := hw.1 c2
        exact qII dC dI cyB cyI cyJ cyP a0 jfB jch jjJ jjK jk3 ji0 jjb ji1 jiJ jip jcD jgk jgl jgm jfV jgn jfW jlS jc6 jjn jlh jli jj9 jkK jkj jjx Q (qpw jlS jc6 jjn jlh jli jj9 jkK jkj jjx Q n) ih C0 _ _ _ jlg jlp jdE l2 l3 l4 l5 hP hD hS (lv_sub hl [0, 1, 2, 3, 4] rfl) hw
      · have hw := hw.2 c2
        refine lv_aload_n hx hb (qaa qfj 13 rfl) rfl (lv_at hl 0 rfl) ?_
        refine va_get (D := (dC, dI)) (ci := 1) (v := .ref jfB) (C := RX1) (T := TX1) (N := 4) hx hb hts qyR hown hK hP 0 rfl rfl 2 (by decide) (hts _ qw4) (fun _ h9 => h9) rfl (qaa qfj 14 rfl) ?_
        refine va_get (D := (dC, dI)) (ci := 2) (v := .int jlS) (C := RX2) (T := TX2) (N := 12) hx hb hts qyr hown hK hP 1 rfl rfl 8 (by decide) (hts _ qQF) (fun _ h9 => h9) rfl (qaa qfj 15 rfl) ?_
        refine lv_if_le (tgt := 104) hx hb (qaa qdR 0 rfl) (by decide) (fun c3 => ?_) (fun c3 => ?_)
        · have hw := hw.1 c3
          exact qII dC dI cyB cyI cyJ cyP a0 jfB jch jjJ jjK jk3 ji0 jjb ji1 jiJ jip jcD jgk jgl jgm jfV jgn jfW jlS jc6 jjn jlh jli jj9 jkK jkj jjx Q (qpw jlS jc6 jjn jlh jli jj9 jkK jkj jjx Q n) ih C0 _ _ _ jlg jlp jdE l2 l3 l4 l5 hP hD hS (lv_sub hl [0, 1, 2, 3, 4] rfl) hw
        · have hw := hw.2 c3
          refine lv_iload_n hx hb (qaa qdR 1 rfl) rfl (lv_at hl 2 rfl) ?_
          obtain ⟨hCc, hPc, hDc, hFc⟩ := qac (ws' := []) hP hD hS hA [] (by decide +kernel) rfl
          refine va_calli (va_runS (As := [.int l3]) (rest := []) ⟨hx, hb, hml, hown, hts⟩ (qTV l dC dI cyB cyI cyJ cyP H.size l3 hw) (va_cwS 1 hts gX1_drawDays_X1_nextSeed rfl rfl rfl (by decide +kernel) ⟨nbq rfl, nbq rfl⟩) ⟨qab, qae hPc hK hDc hNw⟩ rfl rfl hl.1 rfl (lv_room (nbq rfl)) (qaa qdR 2 rfl) ⟨nbq rfl, nbq rfl⟩) hS (fun q _ h => hFc q h) hFc (fun r4 u t H1 locs ht hvm hw hB hz1 hk1 hS => ?_)
          obtain ⟨hP1, hK1, hD1⟩ := hB
          rw [ht] at hP1
          obtain ⟨hP, hD⟩ := qah (wr := (qp0 a0 jch jcD jfB jk3 jfB jjJ jjK jgk jgl jgm jip jfV jgn jlS jc6 jfW jjn jch cyI jdE jjJ cyI jlh jjK cyI jli jk3 ji1 jiJ jjb ji0 jj9 ji0 cyI jlg jjb cyI jlp ji1 cyI jkK jiJ cyI jkj jip cyI jjx)) (w1 := []) (wn := (qp0 a0 jch jcD jfB jk3 jfB jjJ jjK jgk jgl jgm jip jfV jgn jlS jc6 jfW jjn jch cyI jdE jjJ cyI jlh jjK cyI jli jk3 ji1 jiJ jjb ji0 jj9 ji0 cyI jlg jjb cyI jlp ji1 cyI jkK jiJ cyI jkj jip cyI jjx)) hP hD [] [0, 1, 2, 3, 4, 5, 6, 7, 8, 9, 10] hCc rfl (by decide +kernel) (by decide +kernel) rfl hk1 hFc hP1 hD1
          generalize H1 = H at hP hS ⊢
          refine lv_istore_n (lv' := [(3, .int r4), (0, .ref a0), (2, .int l2), (4, .int l4), (5, .int l5)]) hx hb (qaa qdR 3 rfl) rfl hl (by decide) rfl (fun ls hl => ?_)
          refine lv_iload_n hx hb (qaa qdR 4 rfl) rfl (lv_at hl 0 rfl) ?_
          obtain ⟨hCc, hPc, hDc, hFc⟩ := qac (ws' := []) hP hD hS hA [] (by decide +kernel) rfl
          refine va_calli (va_runS (As := [.int r4]) (rest := []) ⟨hx, hb, hml, hown, hts⟩ (qPl l dC dI cyB cyI cyJ cyP H.size r4 hw) (va_cwS 1 hts gX1_drawDays_X1_drawnBits rfl rfl rfl (by decide +kernel) ⟨nbq rfl, nbq rfl⟩) ⟨qab, qae hPc hK hDc hNw⟩ rfl rfl hl.1 rfl (lv_room (nbq rfl)) (qaa qdR 5 rfl) ⟨nbq rfl, nbq rfl⟩) hS (fun q _ h => hFc q h) hFc (fun r5 u t H1 locs ht hvm hw hB hz1 hk1 hS => ?_)
          obtain ⟨hP1, hK1, hD1⟩ := hB
          rw [ht] at hP1
          obtain ⟨hP, hD⟩ := qah (wr := (qp0 a0 jch jcD jfB jk3 jfB jjJ jjK jgk jgl jgm jip jfV jgn jlS jc6 jfW jjn jch cyI jdE jjJ cyI jlh jjK cyI jli jk3 ji1 jiJ jjb ji0 jj9 ji0 cyI jlg jjb cyI jlp ji1 cyI jkK jiJ cyI jkj jip cyI jjx)) (w1 := []) (wn := (qp0 a0 jch jcD jfB jk3 jfB jjJ jjK jgk jgl jgm jip jfV jgn jlS jc6 jfW jjn jch cyI jdE jjJ cyI jlh jjK cyI jli jk3 ji1 jiJ jjb ji0 jj9 ji0 cyI jlg jjb cyI jlp ji1 cyI jkK jiJ cyI jkj jip cyI jjx)) hP hD [] [0, 1, 2, 3, 4, 5, 6, 7, 8, 9, 10] hCc rfl (by decide +kernel) (by decide +kernel) rfl hk1 hFc hP1 hD1
          generalize H1 = H at hP hS ⊢
          refine lv_aload_n hx hb (qaa qdR 6 rfl) rfl (lv_at hl 1 rfl) ?_
          refine va_get (D := (dC, dI)) (ci := 1) (v := .ref jfB) (C := RX1) (T := TX1) (N := 4) hx hb hts qyR hown hK hP 0 rfl rfl 2 (by decide) (hts _ qw4) (fun _ h9 => h9) rfl (qaa qdR 7 rfl) ?_
          refine va_get (D := (dC, dI)) (ci := 2) (v := .int jc6) (C := RX2) (T := TX2) (N := 12) hx hb hts qyr hown hK hP 1 rfl rfl 9 (by decide) (hts _ qIp) (fun _ h9 => h9) rfl (qaa qdR 8 rfl) ?_
          obtain ⟨hz9, hw⟩ := hw
          refine lv_irem hx hb (qaa qdR 9 rfl) hz9 ?_
          refine lv_topi (fun x6 ex6 => ?_)
          have hw := hw x6 ex6
          refine lv_istore (lv' := [(6, .int x6), (3, .int r4), (0, .ref a0), (2, .int l2), (4, .int l4), (5, .int l5)]) hx hb (qaa qdR 10 rfl) hl (by decide) rfl (fun ls hl => ?_)
          refine lv_iload_n hx hb (qaa qdR 11 rfl) rfl (lv_at hl 1 rfl) ?_
          obtain ⟨hCc, hPc, hDc, hFc⟩ := qac (ws' := []) hP hD hS hA [] (by decide +kernel) rfl
          refine va_calli (va_runS (As := [.int r4]) (rest := []) ⟨hx, hb, hml, hown, hts⟩ (qTV l dC dI cyB cyI cyJ cyP H.size r4 hw) (va_cwS 1 hts gX1_drawDays_X1_nextSeed rfl rfl rfl (by decide +kernel) ⟨nbq rfl, nbq rfl⟩) ⟨qab, qae hPc hK hDc hNw⟩ rfl rfl hl.1 rfl (lv_room (nbq rfl)) (qaa qdR 12 rfl) ⟨nbq rfl, nbq rfl⟩) hS (fun q _ h => hFc q h) hFc (fun r7 u t H1 locs ht hvm hw hB hz1 hk1 hS => ?_)
          obtain ⟨hP1, hK1, hD1⟩ := hB
          rw [ht] at hP1
          obtain ⟨hP, hD⟩ := qah (wr := (qp0 a0 jch jcD jfB jk3 jfB jjJ jjK jgk jgl jgm jip jfV jgn jlS jc6 jfW jjn jch cyI jdE jjJ cyI jlh jjK cyI jli jk3 ji1 jiJ jjb ji0 jj9 ji0 cyI jlg jjb cyI jlp ji1 cyI jkK jiJ cyI jkj jip cyI jjx)) (w1 := []) (wn := (qp0 a0 jch jcD jfB jk3 jfB jjJ jjK jgk jgl jgm jip jfV jgn jlS jc6 jfW jjn jch cyI jdE jjJ cyI jlh jjK cyI jli jk3 ji1 jiJ jjb ji0 jj9 ji0 cyI jlg jjb cyI jlp ji1 cyI jkK jiJ cyI jkj jip cyI jjx)) hP hD [] [0, 1, 2, 3, 4, 5, 6, 7, 8, 9, 10] hCc rfl (by decide +kernel) (by decide +kernel) rfl hk1 hFc hP1 hD1
          generalize H1 = H at hP hS ⊢
          refine lv_istore_n (lv' := [(3, .int r7), (6, .int x6), (0, .ref a0), (2, .int l2), (4, .int l4), (5, .int l5)]) hx hb (qaa qdR 13 rfl) rfl hl (by decide) rfl (fun ls hl => ?_)
          refine lv_iload hx hb (qaa qdR 14 rfl) (lv_at hl 4 rfl) ?_
          refine lv_aload_n hx hb (qaa qdR 15 rfl) rfl (lv_at hl 2 rfl) ?_
          refine lv_iload hx hb (qaa qeK 0 rfl) (lv_at hl 1 rfl) ?_
          refine lv_iload_n hx hb (qaa qeK 1 rfl) rfl (lv_at hl 0 rfl) ?_
          obtain ⟨hCc, hPc, hDc, hFc⟩ := qac (ws' := []) hP hD hS hA [] (by decide +kernel) rfl
          refine va_calli (va_runS (As := [.int r7]) (rest := [.int x6, .ref a0, .int l4]) ⟨hx, hb, hml, hown, hts⟩ (qPl l dC dI cyB cyI cyJ cyP H.size r7 hw) (va_cwS 1 hts gX1_drawDays_X1_drawnBits rfl rfl rfl (by decide +kernel) ⟨nbq rfl, nbq rfl⟩) ⟨qab, qae hPc hK hDc hNw⟩ rfl rfl hl.1 rfl (lv_room (nbq rfl)) (qaa qeK 2 rfl) ⟨nbq rfl, nbq rfl⟩) hS (fun q _ h => hFc q h) hFc (fun r8 u t H1 locs ht hvm hw hB hz1 hk1 hS => ?_)
          obtain ⟨hP1, hK1, hD1⟩ := hB
          rw [ht] at hP1
          obtain ⟨hP, hD⟩ := qah (wr := (qp0 a0 jch jcD jfB jk3 jfB jjJ jjK jgk jgl jgm jip jfV jgn jlS jc6 jfW jjn jch cyI jdE jjJ cyI jlh jjK cyI jli jk3 ji1 jiJ jjb ji0 jj9 ji0 cyI jlg jjb cyI jlp ji1 cyI jkK jiJ cyI jkj jip cyI jjx)) (w1 := []) (wn := (qp0 a0 jch jcD jfB jk3 jfB jjJ jjK jgk jgl jgm jip jfV jgn jlS jc6 jfW jjn jch cyI jdE jjJ cyI jlh jjK cyI jli jk3 ji1 jiJ jjb ji0 jj9 ji0 cyI jlg jjb cyI jlp ji1 cyI jkK jiJ cyI jkj jip cyI jjx)) hP hD [] [0, 1, 2, 3, 4, 5, 6, 7, 8, 9, 10] hCc rfl (by decide +kernel) (by decide +kernel) rfl hk1 hFc hP1 hD1
          generalize H1 = H at hP hS ⊢
          refine lv_aload_n hx hb (qaa qeK 3 rfl) rfl (lv_at hl 2 rfl) ?_
          refine va_get (D := (dC, dI)) (ci := 1) (v := .ref jfB) (C := RX1) (T := TX1) (N := 4) hx hb hts qyR hown hK hP 0 rfl rfl 2 (by decide) (hts _ qw4) (fun _ h9 => h9) rfl (qaa qeK 4 rfl) ?_
          refine va_get (D := (dC, dI)) (ci := 2) (v := .int jlS) (C := RX2) (T := TX2) (N := 12) hx hb hts qyr hown hK hP 1 rfl rfl 8 (by decide) (hts _ qQF) (fun _ h9 => h9) rfl (qaa qeK 5 rfl) ?_
          obtain ⟨hz9, hw⟩ := hw
          refine lv_irem hx hb (qaa qeK 6 rfl) hz9 ?_
          refine lv_topi (fun x9 ex9 => ?_)
          have hw := hw x9 ex9
          obtain ⟨hCc, hPc, hDc, hFc⟩ := qac (ws' := (qbao a0 jch jcD jfB jk3 jch cyI jdE jfB jjJ jjK jgk jgl jgm jip jfV jgn jlS jc6 jfW jjn jjJ cyI jlh jjK cyI jli jk3 ji1 jiJ jjb ji0 jj9 ji0 cyI jlg jjb cyI jlp ji1 cyI jkK jiJ cyI jkj)) hP hD hS hA [0, 2, 1, 3, 4, 5, 6, 7, 8, 9] (by decide +kernel) rfl
          refine va_calli (va_runV (As := [.int x6, .int x9]) (rest := [.int l4]) ⟨hx, hb, hml, hown, hts⟩ (qaab l dC dI cyB cyI cyJ cyP a0 jch jfB jjJ jjK jk3 ji0 jjb ji1 jiJ H.size (jcD) (jgk) (jgl) (jgm) (.ref jip) (jfV) (jgn) (.int jlS) (jfW) (.int jjn) jc6 jlh jli jj9 jkK jkj jlg jlp jdE x6 x9 hw) (cwV 2 hts gX1_drawDays_X1_leapIfAllowed rfl rfl rfl (by decide +kernel) ⟨nbq rfl, nbq rfl⟩) ⟨qab, va_recv (q := (RX1, TX1, 4)) hK hPc (ci := 1) (q0 := 0) rfl rfl, qae hPc hK hDc hNw⟩ rfl rfl hl.1 rfl (lv_room (nbq rfl)) (qaa qeK 7 rfl) ⟨nbq rfl, nbq rfl⟩) hS (fun q _ h => hFc q h) hFc (fun r13 u t H1 locs ht hvm hw hB hz1 hk1 hS => ?_)
          obtain ⟨f10, f11, f12⟩ := u
          obtain ⟨hP1, hK1, hD1⟩ := hB
          rw [ht] at hP1
          obtain ⟨hP, hD⟩ := qad (wr := [(jip, .inl (cyI, 6, .inl jjx))]) (w1 := (qbao a0 jch jcD jfB jk3 jch cyI f12 jfB jjJ jjK jgk jgl jgm jip jfV jgn jlS jc6 jfW jjn jjJ cyI jlh jjK cyI jli jk3 ji1 jiJ jjb ji0 jj9 ji0 cyI f10 jjb cyI f11 ji1 cyI jkK jiJ cyI jkj)) (wn := (qp0 a0 jch jcD jfB jk3 jfB jjJ jjK jgk jgl jgm jip jfV jgn jlS jc6 jfW jjn jch cyI f12 jjJ cyI jlh jjK cyI jli jk3 ji1 jiJ jjb ji0 jj9 ji0 cyI f10 jjb cyI f11 ji1 cyI jkK jiJ cyI jkj jip cyI jjx)) hP hD [0, 2, 1, 3, 4, 5, 6, 7, 8, 9] [10] [1, 3, 2, 4, 5, 6, 7, 8, 9, 10, 0] hCc rfl (by decide +kernel) (by decide +kernel) (by decide +kernel) rfl hk1 hFc hP1 hD1
          generalize H1 = H at hP hS ⊢
          refine lv_iadd hx hb (qaa qeK 8 rfl) ?_
          refine lv_topi (fun x14 ex14 => ?_)
          have hw := hw x14 ex14
          refine lv_istore (lv' := [(4, .int x14), (3, .int r7), (6, .int x6), (0, .ref a0), (2, .int l2), (5, .int l5)]) hx hb (qaa qeK 9 rfl) hl (by decide) rfl (fun ls hl => ?_)
          refine lv_iload_n hx hb (qaa qeK 10 rfl) rfl (lv_at hl 1 rfl) ?_
          obtain ⟨hCc, hPc, hDc, hFc⟩ := qac (ws' := []) hP hD hS hA [] (by decide +kernel) rfl
          refine va_calli (va_runS (As := [.int r7]) (rest := []) ⟨hx, hb, hml, hown, hts⟩ (qTV l dC dI cyB cyI cyJ cyP H.size r7 hw) (va_cwS 1 hts gX1_drawDays_X1_nextSeed rfl rfl rfl (by decide +kernel) ⟨nbq rfl, nbq rfl⟩) ⟨qab, qae hPc hK hDc hNw⟩ rfl rfl hl.1 rfl (lv_room (nbq rfl)) (qaa qeK 11 rfl) ⟨nbq rfl, nbq rfl⟩) hS (fun q _ h => hFc q h) hFc (fun r15 u t H1 locs ht hvm hw hB hz1 hk1 hS => ?_)
          obtain ⟨hP1, hK1, hD1⟩ := hB
          rw [ht] at hP1
          obtain ⟨hP, hD⟩ := qah (wr := (qp0 a0 jch jcD jfB jk3 jfB jjJ jjK jgk jgl jgm jip jfV jgn jlS jc6 jfW jjn jch cyI f12 jjJ cyI jlh jjK cyI jli jk3 ji1 jiJ jjb ji0 jj9 ji0 cyI f10 jjb cyI f11 ji1 cyI jkK jiJ cyI jkj jip cyI jjx)) (w1 := []) (wn := (qp0 a0 jch jcD jfB jk3 jfB jjJ jjK jgk jgl jgm jip jfV jgn jlS jc6 jfW jjn jch cyI f12 jjJ cyI jlh jjK cyI jli jk3 ji1 jiJ jjb ji0 jj9 ji0 cyI f10 jjb cyI f11 ji1 cyI jkK jiJ cyI jkj jip cyI jjx)) hP hD [] [0, 1, 2, 3, 4, 5, 6, 7, 8, 9, 10] hCc rfl (by decide +kernel) (by decide +kernel) rfl hk1 hFc hP1 hD1
          generalize H1 = H at hP hS ⊢
          refine lv_istore_n (lv' := [(3, .int r15), (4, .int x14), (6, .int x6), (0, .ref a0), (2, .int l2), (5, .int l5)]) hx hb (qaa qeK 12 rfl) rfl hl (by decide) rfl (fun ls hl => ?_)
          refine lv_aload_n hx hb (qaa qeK 13 rfl) rfl (lv_at hl 3 rfl) ?_
          refine lv_iload hx hb (qaa qeK 14 rfl) (lv_at hl 2 rfl) ?_
          refine lv_iload_n hx hb (qaa qeK 15 rfl) rfl (lv_at hl 0 rfl) ?_
          obtain ⟨hCc, hPc, hDc, hFc⟩ := qac (ws' := []) hP hD hS hA [] (by decide +kernel) rfl
          refine va_calli (va_runS (As := [.int r15]) (rest := [.int x6, .ref a0]) ⟨hx, hb, hml, hown, hts⟩ (qPl l dC dI cyB cyI cyJ cyP H.size r15 hw) (va_cwS 1 hts gX1_drawDays_X1_drawnBits rfl rfl rfl (by decide +kernel) ⟨nbq rfl, nbq rfl⟩) ⟨qab, qae hPc hK hDc hNw⟩ rfl rfl hl.1 rfl (lv_room (nbq rfl)) (qaa qkM 0 rfl) ⟨nbq rfl, nbq rfl⟩) hS (fun q _ h => hFc q h) hFc (fun r16 u t H1 locs ht hvm hw hB hz1 hk1 hS => ?_)
          obtain ⟨hP1, hK1, hD1⟩ := hB
          rw [ht] at hP1
          obtain ⟨hP, hD⟩ := qah (wr := (qp0 a0 jch jcD jfB jk3 jfB jjJ jjK jgk jgl jgm jip jfV jgn jlS jc6 jfW jjn jch cyI f12 jjJ cyI jlh jjK cyI jli jk3 ji1 jiJ jjb ji0 jj9 ji0 cyI f10 jjb cyI f11 ji1 cyI jkK jiJ cyI jkj jip cyI jjx)) (w1 := []) (wn := (qp0 a0 jch jcD jfB jk3 jfB jjJ jjK jgk jgl jgm jip jfV jgn jlS jc6 jfW jjn jch cyI f12 jjJ cyI jlh jjK cyI jli jk3 ji1 jiJ jjb ji0 jj9 ji0 cyI f10 jjb cyI f11 ji1 cyI jkK jiJ cyI jkj jip cyI jjx)) hP hD [] [0, 1, 2, 3, 4, 5, 6, 7, 8, 9, 10] hCc rfl (by decide +kernel) (by decide +kernel) rfl hk1 hFc hP1 hD1
          generalize H1 = H at hP hS ⊢
          refine lv_aload_n hx hb (qaa qkM 1 rfl) rfl (lv_at hl 3 rfl) ?_
          refine va_get (D := (dC, dI)) (ci := 1) (v := .ref jfB) (C := RX1) (T := TX1) (N := 4) hx hb hts qyR hown hK hP 0 rfl rfl 2 (by decide) (hts _ qw4) (fun _ h9 => h9) rfl (qaa qkM 2 rfl) ?_
          refine va_get (D := (dC, dI)) (ci := 2) (v := .int jc6) (C := RX2) (T := TX2) (N := 12) hx hb hts qyr hown hK hP 1 rfl rfl 9 (by decide) (hts _ qIp) (fun _ h9 => h9) rfl (qaa qkM 3 rfl) ?_
          obtain ⟨hz9, hw⟩ := hw
          refine lv_irem hx hb (qaa qkM 4 rfl) hz9 ?_
          refine lv_topi (fun x17 ex17 => ?_)
          have hw := hw x17 ex17
          obtain ⟨hCc, hPc, hDc, hFc⟩ := qac (ws' := (qGV a0 jch jcD jfB jk3 jch cyI f12)) hP hD hS hA [0, 2] (by decide +kernel) rfl
          refine va_callv (va_runV (As := [.int x6, .int x17]) (rest := []) ⟨hx, hb, hml, hown, hts⟩ (q51 l dC dI cyB cyI cyJ cyP a0 jch H.size (jcD) (.ref jfB) (.ref jk3) f12 x6 x17 hw) (cwV 2 hts gX1_drawDays_X1_fightIfAllowed rfl rfl rfl (by decide +kernel) ⟨nbq rfl, nbq rfl⟩) ⟨qab, va_recv (q := (RX1, TX1, 4)) hK hPc (ci := 1) (q0 := 0) rfl rfl, qae hPc hK hDc hNw⟩ rfl rfl hl.1 rfl (lv_room (nbq rfl)) (qaa qkM 5 rfl) ⟨nbq rfl, nbq rfl⟩) hS (fun q _ h => hFc q h) hFc (fun u t H1 locs ht hvm hw hB hz1 hk1 hS => ?_)
          obtain ⟨f18, rfl⟩ : ∃ z, z = u := ⟨_, rfl⟩
          obtain ⟨hP1, hK1, hD1⟩ := hB
          rw [ht] at hP1
          obtain ⟨hP, hD⟩ := qad (wr := [(jfB, .inr (2, [.ref jjJ, .ref jjK, jgk, jgl, jgm, .ref jip, jfV, jgn, .int jlS, .int jc6, jfW, .int jjn])), (jjJ, .inl (cyI, 8, .inl jlh)), (jjK, .inl (cyI, 8, .inl jli)), (jk3, .inr (4, [.ref ji1, .ref jiJ, .ref jjb, .ref ji0, .int jj9])), (ji0, .inl (cyI, 8, .inl f10)), (jjb, .inl (cyI, 150, .inl f11)), (ji1, .inl (cyI, 150, .inl jkK)), (jiJ, .inl (cyI, 150, .inl jkj)), (jip, .inl (cyI, 6, .inl jjx))]) (w1 := (qGV a0 jch jcD jfB jk3 jch cyI f18)) (wn := (qp0 a0 jch jcD jfB jk3 jfB jjJ jjK jgk jgl jgm jip jfV jgn jlS jc6 jfW jjn jch cyI f18 jjJ cyI jlh jjK cyI jli jk3 ji1 jiJ jjb ji0 jj9 ji0 cyI f10 jjb cyI f11 ji1 cyI jkK jiJ cyI jkj jip cyI jjx)) hP hD [0, 2] [1, 3, 4, 5, 6, 7, 8, 9, 10] [9, 0, 10, 1, 2, 3, 4, 5, 6, 7, 8] hCc rfl (by decide +kernel) (by decide +kernel) (by decide +kernel) rfl hk1 hFc hP1 hD1
          generalize H1 = H at hP hS ⊢
          exact qII dC dI cyB cyI cyJ cyP a0 jfB jch jjJ jjK jk3 ji0 jjb ji1 jiJ jip jcD jgk jgl jgm jfV jgn jfW jlS jc6 jjn jlh jli jj9 jkK jkj jjx Q (qpw jlS jc6 jjn jlh jli jj9 jkK jkj jjx Q n) ih C0 _ _ _ f10 f11 f18 l2 r15 x14 l5 hP hD hS (lv_sub hl [3, 4, 0, 1, 5] rfl) hw
set_option maxHeartbeats 4000000 in
set_option maxRecDepth 100000 in
theorem q7k (l : Launch) (dC : Nat → ClassId) (dI : Nat → Nat → Nat) (cyB cyI cyJ cyP : ClassId) (a0 jfB jch jjJ jjK jk3 ji0 jjb ji1 jiJ jip sz : Nat) (jcD jgk jgl jgm jfV jgn jfW : Value) (jlS jc6 jjn : Int32) (jlh jli : NI) (jj9 : Int32) (jkK jkj jjx jlg jlp jdE : NI) (p1 p2 : Int32) {Q : Int32 → NI → NI → NI → Prop} (hw : qKX jlS jc6 jjn jlh jli jj9 jkK jkj jjx jlg jlp jdE p1 p2 Q) : Met l yX1_drawDays wsX1_drawDays ({ frames := 5, cells := 0, slots := 0, locals := 121 }) (va_Pc [.ref a0, .int p1, .int p2] (cPc (dC, dI) (kT cyB cyI cyJ cyP) (qp0 a0 jch jcD jfB jk3 jfB jjJ jjK jgk jgl jgm jip jfV jgn jlS jc6 jfW jjn jch cyI jdE jjJ cyI jlh jjK cyI jli jk3 ji1 jiJ jjb ji0 jj9 ji0 cyI jlg jjb cyI jlp ji1 cyI jkK jiJ cyI jkj jip cyI jjx) sz)) (va_Qi (fun (r : Int32) (u : NI × NI × NI) => Q r u.1 u.2.1 u.2.2) (cB (dC, dI) (kT cyB cyI cyJ cyP) (va_A (qp0 a0 jch jcD jfB jk3 jfB jjJ jjK jgk jgl jgm jip jfV jgn jlS jc6 jfW jjn jch cyI jdE jjJ cyI jlh jjK cyI jli jk3 ji1 jiJ jjb ji0 jj9 ji0 cyI jlg jjb cyI jlp ji1 cyI jkK jiJ cyI jkj jip cyI jjx) sz) (fun u : NI × NI × NI => ((qp0 a0 jch jcD jfB jk3 jfB jjJ jjK jgk jgl jgm jip jfV jgn jlS jc6 jfW jjn jch cyI u.2.2 jjJ cyI jlh jjK cyI jli jk3 ji1 jiJ jjb ji0 jj9 ji0 cyI u.1 jjb cyI u.2.1 ji1 cyI jkK jiJ cyI jkj jip cyI jjx) : va_W))) (va_A (qp0 a0 jch jcD jfB jk3 jfB jjJ jjK jgk jgl jgm jip jfV jgn jlS jc6 jfW jjn jch cyI jdE jjJ cyI jlh jjK cyI jli jk3 ji1 jiJ jjb ji0 jj9 ji0 cyI jlg jjb cyI jlp ji1 cyI jkK jiJ cyI jkj jip cyI jjx) sz)) 0 0 (va_A (qp0 a0 jch jcD jfB jk3 jfB jjJ jjK jgk jgl jgm jip jfV jgn jlS jc6 jfW jjn jch cyI jdE jjJ cyI jlh jjK cyI jli jk3 ji1 jiJ jjb ji0 jj9 ji0 cyI jlg jjb cyI jlp ji1 cyI jkK jiJ cyI jkj jip cyI jjx) sz) := by
  refine Met.ofW (cc := cX1_drawDays) (maxL := 7) (ret := (some .int)) (by decide) rfl ?_
  intro p e s m args below meth c s₁ B hml hv
  obtain ⟨rfl, hsz, hP, hK, hD0, hNw⟩ := hv
  have hx := B.exec
  have hb := B.bytes
  have hr := B.returns
  have hts := atoms_spec (ws := wsX1_drawDays) B.pre
  have hown : s.vm.findClass RX1 = some m.cls := findClass_of_methodNamed B.named
  have hlocks := B.notSynchronized
  subst hsz
  have hD := hD0.self (sz := s.heap.size)
  generalize hAe : va_A (qp0 a0 jch jcD jfB jk3 jfB jjJ jjK jgk jgl jgm jip jfV jgn jlS jc6 jfW jjn jch cyI jdE jjJ cyI jlh jjK cyI jli jk3 ji1 jiJ jjb ji0 jj9 ji0 cyI jlg jjb cyI jlp ji1 cyI jkK jiJ cyI jkj jip cyI jjx) s.heap.size = A at hD ⊢
  have hA : ∀ q : Nat, s.heap.size ≤ q → A q := fun q h => by rw [← hAe]; exact Or.inr h
  have hS : va_S A s.heap s.heap [] := va_S.rf
  have hP : va_P (dC, dI) vwCl (qp0 a0 jch jcD jfB jk3 jfB jjJ jjK jgk jgl jgm jip jfV jgn jlS jc6 jfW jjn jch cyI jdE jjJ cyI jlh jjK cyI jli jk3 ji1 jiJ jjb ji0 jj9 ji0 cyI jlg jjb cyI jlp ji1 cyI jkK jiJ cyI jkj jip cyI jjx) s.heap := hP
  have hl := lv_entry ([.ref a0, .int p1, .int p2]) (n := 7) (nbq rfl)
  rw [lg_entry_eq]
  generalize (lg_sl ([.ref a0, .int p1, .int p2]) ++ List.replicate (7 - (lg_sl ([.ref a0, .int p1, .int p2])).length) Slot.unset).toArray = ls at hl ⊢
  have hl : lv_has ls 7 [(0, .ref a0), (1, .int p1), (2, .int p2)] := hl
  have C0 : cfx p s m _ meth c cX1_drawDays (some .int) wsX1_drawDays RX1 7 A (dC, dI) (kT cyB cyI cyJ cyP) := ⟨hx, hb, hr, hts, hown, hlocks, hml, hA, hK, hNw⟩
  clear hAe
  obtain ⟨H, hH⟩ : ∃ H, H = s.heap := ⟨_, rfl⟩
  rw [← hH] at hP ⊢
  have hS : va_S A s.heap H [] := by rw [hH]; exact va_S.rf
  have hS := hS
  refine lv_iload_n hx hb (qaa qfj 0 rfl) rfl (lv_at hl 1 rfl) ?_
  refine lv_istore_n (lv' := [(3, .int p1), (0, .ref a0), (1, .int p1), (2, .int p2)]) hx hb (qaa qfj 1 rfl) rfl hl (by decide) rfl (fun ls hl => ?_)
  refine lv_iconst (v := 0) hx hb (qaa qfj 2 rfl) (by decide) ?_
  refine lv_istore (lv' := [(4, .int 0), (3, .int p1), (0, .ref a0), (1, .int p1), (2, .int p2)]) hx hb (qaa qfj 3 rfl) hl (by decide) rfl (fun ls hl => ?_)
  refine lv_iconst (v := 0) hx hb (qaa qfj 4 rfl) (by decide) ?_
  refine lv_istore (lv' := [(5, .int 0), (4, .int 0), (3, .int p1), (0, .ref a0), (1, .int p1), (2, .int p2)]) hx hb (qaa qfj 5 rfl) hl (by decide) rfl (fun ls hl => ?_)
  obtain ⟨n9, hw⟩ := hw
  exact qaoJ dC dI cyB cyI cyJ cyP a0 jfB jch jjJ jjK jk3 ji0 jjb ji1 jiJ jip jcD jgk jgl jgm jfV jgn jfW jlS jc6 jjn jlh jli jj9 jkK jkj jjx Q C0 n9 _ _ _ jlg jlp jdE p2 p1 0 0 hP hD hS (lv_sub hl [3, 5, 2, 1, 0] rfl) hw
theorem qYp : ∀ w ∈ u_ws RX1 TX1 4, w ∈ wsX1_strongTogether := uiM qpm qWg (by decide +kernel)
theorem qXz : ∀ w ∈ u_ws RX2 TX2 12, w ∈ wsX1_strongTogether := uiM qpm qLp (by decide +kernel)
theorem qV4 : (.fieldLink RX1 24 "MarchHares$Days" "down" "LMarchHares$Down;" : Cond) ∈ wsX1_strongTogether := qpm 322 (by decide +kernel)
theorem qVg : (.fieldLink RX1 32 "MarchHares$Down" "hares" "I" : Cond) ∈ wsX1_strongTogether := qpm 324 (by decide +kernel)
set_option maxHeartbeats 4000000 in
set_option maxRecDepth 100000 in
theorem qHM {p : Program} {l : Launch} {e : Env} {s : State} {m : MethodId} {args : Array Value} {below : List Frame} {meth : Method} {c : Code} {A : Nat → Prop} (dC : Nat → ClassId) (dI : Nat → Nat → Nat) (cyB cyI cyJ cyP : ClassId) (a0 jfB jch : Nat) (jcD jhx jhr jhs jgk jgl jgm jgz jfV jgn jgO jfW jiB : Value) (jc6 : Int32) (jdE : NI) (Q : Int32 → Prop) (K4 : Int32 → Int32 → Prop) (hK4 : ∀ (H : Heap) (locs : List Loc) (ls : Array Slot) (l1 l2 : Int32), va_P (dC, dI) vwCl (qAT a0 jch jcD jfB jhx jfB jhr jhs jgk jgl jgm jgz jfV jgn jgO jc6 jfW jiB jch cyI jdE) H → va_D A (qAT a0 jch jcD jfB jhx jfB jhr jhs jgk jgl jgm jgz jfV jgn jgO jc6 jfW jiB jch cyI jdE) → va_S A s.heap H locs → lv_has ls 3 [(0, .ref a0), (1, .int l1), (2, .int l2)] → K4 l1 l2 → W p l e (headSpec wsX1_strongTogether ({ frames := 1, cells := 0, slots := 0, locals := 21 })).room s m args below meth c H locs 0 0 (MQ below (va_Qi (fun (r : Int32) (_ : Unit) => Q r ) (cB (dC, dI) (kT cyB cyI cyJ cyP) A (fun u : Unit => ((qAT a0 jch jcD jfB jhx jfB jhr jhs jgk jgl jgm jgz jfV jgn jgO jc6 jfW jiB jch cyI jdE) : va_W))) A) args s 0 0 A) (F0 m 4 ls [])) (C0 : cfx p s m args meth c cX1_strongTogether (some .int) wsX1_strongTogether RX1 3 A (dC, dI) (kT cyB cyI cyJ cyP)) : ∀ (H : Heap) (locs : List Loc) (ls : Array Slot) (l2 s0 s1 : Int32), va_P (dC, dI) vwCl (qAT a0 jch jcD jfB jhx jfB jhr jhs jgk jgl jgm jgz jfV jgn jgO jc6 jfW jiB jch cyI jdE) H → va_D A (qAT a0 jch jcD jfB jhx jfB jhr jhs jgk jgl jgm jgz jfV jgn jgO jc6 jfW jiB jch cyI jdE) → va_S A s.heap H locs → lv_has ls 3 [(0, .ref a0), (2, .int l2)] → qzZ jc6 jdE Q K4 l2 s0 s1 → W p l e (headSpec wsX1_strongTogether ({ frames := 1, cells := 0, slots := 0, locals := 21 })).room s m args below meth c H locs 0 0 (MQ below (va_Qi (fun (r : Int32) (_ : Unit) => Q r ) (cB (dC, dI) (kT cyB cyI cyJ cyP) A (fun u : Unit => ((qAT a0 jch jcD jfB jhx jfB jhr jhs jgk jgl jgm jgz jfV jgn jgO jc6 jfW jiB jch cyI jdE) : va_W))) A) args s 0 0 A) (F0 m 33 ls [.int s1, .int s0]) := by
  obtain ⟨hx, hb, hr, hts, hown, hlocks, hml, hA, hK, hNw⟩ := id C0
  intro H locs ls l2 s0 s1 hP hD hS hl hw
  refine lv_iadd hx hb (qaa qh3 3 rfl) ?_
  refine lv_topi (fun x5 ex5 => ?_)
  have hw := hw x5 ex5
  refine lv_istore_n (lv' := [(1, .int x5), (0, .ref a0), (2, .int l2)]) hx hb (qaa qh3 4 rfl) rfl hl (by decide) rfl (fun ls hl => ?_)
  obtain ⟨x6, ex6⟩ : ∃ y : Int32, y = l2 + 1 := ⟨_, rfl⟩
  have hw := hw x6 ex6
  refine lv_iinc (v := x6) (lv' := [(2, .int x6), (1, .int x5), (0, .ref a0)]) hx hb (qaa qh3 5 rfl) hl (k := 2) rfl (by rw [ex6]; rfl) (by decide) rfl (fun ls hl => ?_)
  refine lv_goto (tgt := 4) hx hb (qaa qh3 6 rfl) (by decide) ?_
  exact hK4 _ _ _ x5 x6 hP hD hS (lv_sub hl [2, 1, 0] rfl) hw
set_option maxHeartbeats 4000000 in
set_option maxRecDepth 100000 in
theorem q0h {p : Program} {l : Launch} {e : Env} {s : State} {m : MethodId} {args : Array Value} {below : List Frame} {meth : Method} {c : Code} {A : Nat → Prop} (dC : Nat → ClassId) (dI : Nat → Nat → Nat) (cyB cyI cyJ cyP : ClassId) (a0 jfB jch : Nat) (jcD jhx jhr jhs jgk jgl jgm jgz jfV jgn jgO jfW jiB : Value) (jc6 : Int32) (jdE : NI) (Q : Int32 → Prop) (C0 : cfx p s m args meth c cX1_strongTogether (some .int) wsX1_strongTogether RX1 3 A (dC, dI) (kT cyB cyI cyJ cyP)) : ∀ (n : Nat) (H : Heap) (locs : List Loc) (ls : Array Slot) (l1 l2 : Int32), va_P (dC, dI) vwCl (qAT a0 jch jcD jfB jhx jfB jhr jhs jgk jgl jgm jgz jfV jgn jgO jc6 jfW jiB jch cyI jdE) H → va_D A (qAT a0 jch jcD jfB jhx jfB jhr jhs jgk jgl jgm jgz jfV jgn jgO jc6 jfW jiB jch cyI jdE) → va_S A s.heap H locs → lv_has ls 3 [(0, .ref a0), (1, .int l1), (2, .int l2)] → qlj jc6 jdE Q n l1 l2 → W p l e (headSpec wsX1_strongTogether ({ frames := 1, cells := 0, slots := 0, locals := 21 })).room s m args below meth c H locs 0 0 (MQ below (va_Qi (fun (r : Int32) (_ : Unit) => Q r ) (cB (dC, dI) (kT cyB cyI cyJ cyP) A (fun u : Unit => ((qAT a0 jch jcD jfB jhx jfB jhr jhs jgk jgl jgm jgz jfV jgn jgO jc6 jfW jiB jch cyI jdE) : va_W))) A) args s 0 0 A) (F0 m 4 ls []) := by
  obtain ⟨hx, hb, hr, hts, hown, hlocks, hml, hA, hK, hNw⟩ := id C0
  intro n
  induction n with
  | zero => intro H locs ls l1 l2 hP hD hS hl hw; exact False.elim hw
  | succ n ih =>
    intro H locs ls l1 l2 hP hD hS hl hw
    refine lv_iload_n hx hb (qaa qbY 4 rfl) rfl (lv_at hl 2 rfl) ?_
    refine lv_aload_n hx hb (qaa qbY 5 rfl) rfl (lv_at hl 0 rfl) ?_
    refine va_get (D := (dC, dI)) (ci := 1) (v := .ref jfB) (C := RX1) (T := TX1) (N := 4) hx hb hts qYp hown hK hP 0 rfl rfl 2 (by decide) (hts _ qV4) (fun _ h9 => h9) rfl (qaa qbY 6 rfl) ?_
    refine va_get (D := (dC, dI)) (ci := 2) (v := .int jc6) (C := RX2) (T := TX2) (N := 12) hx hb hts qXz hown hK hP 1 rfl rfl 9 (by decide) (hts _ qVg) (fun _ h9 => h9) rfl (qaa qbY 7 rfl) ?_
    refine lv_icmp_ge (tgt := 41) hx hb (qaa qbY 8 rfl) (by decide) (fun c1 => ?_) (fun c1 => ?_)
    · have hw := hw.1 c1
      refine lv_iload_n hx hb (qaa qh3 7 rfl) rfl (lv_at hl 1 rfl) ?_
      exact ((W.iret (v := l1) hx hb hr (fun t ht hW => ⟨⟨l1, (), rfl, hw, by rw [ht]; exact hP, va_K.moved hW.alike hK, hD⟩, hS.F ht⟩) hS.2.2 (qaa qh3 8 rfl)))
    · have hw := hw.2 c1
      refine lv_iload_n hx hb (qaa qbY 9 rfl) rfl (lv_at hl 1 rfl) ?_
      refine lv_aload_n hx hb (qaa qbY 10 rfl) rfl (lv_at hl 0 rfl) ?_
      refine lv_iload_n hx hb (qaa qbY 11 rfl) rfl (lv_at hl 2 rfl) ?_
      obtain ⟨hCc, hPc, hDc, hFc⟩ := qac (ws' := (qaMq a0 jch jcD jfB jhx jch cyI jdE)) hP hD hS hA [0, 2] (by decide +kernel) rfl
      refine va_calli (va_runV (As := [.int l2]) (rest := [.int l1]) ⟨hx, hb, hml, hown, hts⟩ (qia l dC dI cyB cyI cyJ cyP a0 jch H.size (jcD) (.ref jfB) (jhx) jdE l2 hw) (cwV 1 hts gX1_strongTogether_X1_isCaught rfl rfl rfl (by decide +kernel) ⟨nbq rfl, nbq rfl⟩) ⟨qab, va_recv (q := (RX1, TX1, 4)) hK hPc (ci := 1) (q0 := 0) rfl rfl, qae hPc hK hDc hNw⟩ rfl rfl hl.1 rfl (lv_room (nbq rfl)) (qaa qbY 12 rfl) ⟨nbq rfl, nbq rfl⟩) hS (fun q _ h => hFc q h) hFc (fun r2 u t H1 locs ht hvm hw hB hz1 hk1 hS => ?_)
      obtain ⟨hP1, hK1, hD1⟩ := hB
      rw [ht] at hP1
      obtain ⟨hP, hD⟩ := qad (wr := (qa7B jfB jhr jhs jgk jgl jgm jgz jfV jgn jgO jc6 jfW jiB)) (w1 := (qaMq a0 jch jcD jfB jhx jch cyI jdE)) (wn := (qAT a0 jch jcD jfB jhx jfB jhr jhs jgk jgl jgm jgz jfV jgn jgO jc6 jfW jiB jch cyI jdE)) hP hD [0, 2] [1] [1, 0, 2] hCc rfl (by decide +kernel) (by decide +kernel) (by decide +kernel) rfl hk1 hFc hP1 hD1
      generalize H1 = H at hP hS ⊢
      refine lv_if_eq (tgt := 28) hx hb (qaa qbY 13 rfl) (by decide) (fun c3 => ?_) (fun c3 => ?_)
      · have hw := hw.1 c3
        refine lv_aload_n hx hb (qaa qh3 0 rfl) rfl (lv_at hl 0 rfl) ?_
        refine lv_iload_n hx hb (qaa qh3 1 rfl) rfl (lv_at hl 2 rfl) ?_
        obtain ⟨hCc, hPc, hDc, hFc⟩ := qac (ws' := (qaMq a0 jch jcD jfB jhx jch cyI jdE)) hP hD hS hA [0, 2] (by decide +kernel) rfl
        refine va_calli (va_runV (As := [.int l2]) (rest := [.int l1]) ⟨hx, hb, hml, hown, hts⟩ (qsD l dC dI cyB cyI cyJ cyP a0 jch H.size (jcD) (.ref jfB) (jhx) jdE l2 hw) (cwV 1 hts gX1_strongTogether_X1_strong rfl rfl rfl (by decide +kernel) ⟨nbq rfl, nbq rfl⟩) ⟨qab, va_recv (q := (RX1, TX1, 4)) hK hPc (ci := 1) (q0 := 0) rfl rfl, qae hPc hK hDc hNw⟩ rfl rfl hl.1 rfl (lv_room (nbq rfl)) (qaa qh3 2 rfl) ⟨nbq rfl, nbq rfl⟩) hS (fun q _ h => hFc q h) hFc (fun r4 u t H1 locs ht hvm hw hB hz1 hk1 hS => ?_)
        obtain ⟨hP1, hK1, hD1⟩ := hB
        rw [ht] at hP1
        obtain ⟨hP, hD⟩ := qad (wr := (qa7B jfB jhr jhs jgk jgl jgm jgz jfV jgn jgO jc6 jfW jiB)) (w1 := (qaMq a0 jch jcD jfB jhx jch cyI jdE)) (wn := (qAT a0 jch jcD jfB jhx jfB jhr jhs jgk jgl jgm jgz jfV jgn jgO jc6 jfW jiB jch cyI jdE)) hP hD [0, 2] [1] [1, 0, 2] hCc rfl (by decide +kernel) (by decide +kernel) (by decide +kernel) rfl hk1 hFc hP1 hD1
        generalize H1 = H at hP hS ⊢
        exact qHM dC dI cyB cyI cyJ cyP a0 jfB jch jcD jhx jhr jhs jgk jgl jgm jgz jfV jgn jgO jfW jiB jc6 jdE Q (qlj jc6 jdE Q n) ih C0 _ _ _ l2 l1 r4 hP hD hS (lv_sub hl [0, 2] rfl) hw
      · have hw := hw.2 c3
        refine lv_iconst (v := 0) hx hb (qaa qbY 14 rfl) (by decide) ?_
        refine lv_goto (tgt := 33) hx hb (qaa qbY 15 rfl) (by decide) ?_
        exact qHM dC dI cyB cyI cyJ cyP a0 jfB jch jcD jhx jhr jhs jgk jgl jgm jgz jfV jgn jgO jfW jiB jc6 jdE Q (qlj jc6 jdE Q n) ih C0 _ _ _ l2 l1 0 hP hD hS (lv_sub hl [0, 2] rfl) hw
set_option maxHeartbeats 4000000 in
set_option maxRecDepth 100000 in
theorem q6m (l : Launch) (dC : Nat → ClassId) (dI : Nat → Nat → Nat) (cyB cyI cyJ cyP : ClassId) (a0 jfB jch sz : Nat) (jcD jhx jhr jhs jgk jgl jgm jgz jfV jgn jgO jfW jiB : Value) (jc6 : Int32) (jdE : NI) {Q : Int32 → Prop} (hw : qDD jc6 jdE Q) : Met l yX1_strongTogether wsX1_strongTogether ({ frames := 1, cells := 0, slots := 0, locals := 21 }) (va_Pc [.ref a0] (cPc (dC, dI) (kT cyB cyI cyJ cyP) (qAT a0 jch jcD jfB jhx jfB jhr jhs jgk jgl jgm jgz jfV jgn jgO jc6 jfW jiB jch cyI jdE) sz)) (va_Qi (fun (r : Int32) (_ : Unit) => Q r ) (cB (dC, dI) (kT cyB cyI cyJ cyP) (va_A (qAT a0 jch jcD jfB jhx jfB jhr jhs jgk jgl jgm jgz jfV jgn jgO jc6 jfW jiB jch cyI jdE) sz) (fun u : Unit => ((qAT a0 jch jcD jfB jhx jfB jhr jhs jgk jgl jgm jgz jfV jgn jgO jc6 jfW jiB jch cyI jdE) : va_W))) (va_A (qAT a0 jch jcD jfB jhx jfB jhr jhs jgk jgl jgm jgz jfV jgn jgO jc6 jfW jiB jch cyI jdE) sz)) 0 0 (va_A (qAT a0 jch jcD jfB jhx jfB jhr jhs jgk jgl jgm jgz jfV jgn jgO jc6 jfW jiB jch cyI jdE) sz) := by
  refine Met.ofW (cc := cX1_strongTogether) (maxL := 3) (ret := (some .int)) (by decide) rfl ?_
  intro p e s m args below meth c s₁ B hml hv
  obtain ⟨rfl, hsz, hP, hK, hD0, hNw⟩ := hv
  have hx := B.exec
  have hb := B.bytes
  have hr := B.returns
  have hts := atoms_spec (ws := wsX1_strongTogether) B.pre
  have hown : s.vm.findClass RX1 = some m.cls := findClass_of_methodNamed B.named
  have hlocks := B.notSynchronized
  subst hsz
  have hD := hD0.self (sz := s.heap.size)
  generalize hAe : va_A (qAT a0 jch jcD jfB jhx jfB jhr jhs jgk jgl jgm jgz jfV jgn jgO jc6 jfW jiB jch cyI jdE) s.heap.size = A at hD ⊢
  have hA : ∀ q : Nat, s.heap.size ≤ q → A q := fun q h => by rw [← hAe]; exact Or.inr h
  have hS : va_S A s.heap s.heap [] := va_S.rf
  have hP : va_P (dC, dI) vwCl (qAT a0 jch jcD jfB jhx jfB jhr jhs jgk jgl jgm jgz jfV jgn jgO jc6 jfW jiB jch cyI jdE) s.heap := hP
  have hl := lv_entry ([.ref a0]) (n := 3) (nbq rfl)
  rw [lg_entry_eq]
  generalize (lg_sl ([.ref a0]) ++ List.replicate (3 - (lg_sl ([.ref a0])).length) Slot.unset).toArray = ls at hl ⊢
  have hl : lv_has ls 3 [(0, .ref a0)] := hl
  have C0 : cfx p s m _ meth c cX1_strongTogether (some .int) wsX1_strongTogether RX1 3 A (dC, dI) (kT cyB cyI cyJ cyP) := ⟨hx, hb, hr, hts, hown, hlocks, hml, hA, hK, hNw⟩
  clear hAe
  obtain ⟨H, hH⟩ : ∃ H, H = s.heap := ⟨_, rfl⟩
  rw [← hH] at hP ⊢
  have hS : va_S A s.heap H [] := by rw [hH]; exact va_S.rf
  have hS := hS
  refine lv_iconst (v := 0) hx hb (qaa qbY 0 rfl) (by decide) ?_
  refine lv_istore_n (lv' := [(1, .int 0), (0, .ref a0)]) hx hb (qaa qbY 1 rfl) rfl hl (by decide) rfl (fun ls hl => ?_)
  refine lv_iconst (v := 0) hx hb (qaa qbY 2 rfl) (by decide) ?_
  refine lv_istore_n (lv' := [(2, .int 0), (1, .int 0), (0, .ref a0)]) hx hb (qaa qbY 3 rfl) rfl hl (by decide) rfl (fun ls hl => ?_)
  obtain ⟨n9, hw⟩ := hw
  exact q0h dC dI cyB cyI cyJ cyP a0 jfB jch jcD jhx jhr jhs jgk jgl jgm jgz jfV jgn jgO jfW jiB jc6 jdE Q C0 n9 _ _ _ 0 0 hP hD hS (lv_sub hl [2, 1, 0] rfl) hw
theorem qws : ∀ w ∈ u_ws RX10 TX10 19, w ∈ wsX10_march := uiM qq5 qyN (by decide +kernel)
theorem qat8 : (.fieldLink RX10 58 "MarchHares" "now" "LMarchHares$Days;" : Cond) ∈ wsX10_march := qq5 79 (by decide +kernel)
theorem qAh : (.fieldLink RX10 62 "MarchHares" "trial" "LMarchHares$Days;" : Cond) ∈ wsX10_march := qq5 80 (by decide +kernel)
set_option maxHeartbeats 4000000 in
set_option maxRecDepth 100000 in
theorem qaVZ (l : Launch) (dC : Nat → ClassId) (dI : Nat → Nat → Nat) (cyB cyI cyJ cyP : ClassId) (a0 jh8 jaT jbb jhy jaR jb6 jbs jbt jcc jcl jbW jbL jcG sz : Nat) (jaK jfS ja1 jcp jbc jbV ja3 jbH jaq jac jbI jbl jbn jba jaa jbA jiK jbr jbo jbp jbk jbf jbq jbi : Value) (jbQ : NI) (jbE jbm jdB : Int32) (jci jcj : NI) (jdh : Int32) (jdN jdi jfT : NI) (jbz : Int32) (jjV : NI) (jkp jkP : Value) (jfl jfM : NI) (p1 p2 p3 : Int32) {E : String → Int32 → NI → Value → Value → NI → NI → Prop} {Q : Int32 → Int32 → NI → Value → Value → NI → NI → Prop} (hw : q3s jaR jb6 jbQ jbE jbm jdB jci jcj jdh jdN jdi jfT jbz jjV jkp jkP jfl jfM p1 p2 p3 E Q) : vx_Met l yX10_march wsX10_march ({ frames := 8, cells := 2, slots := 12, locals := 164 }) (va_Pc [.ref a0, .int p1, .int p2, .int p3] (cPx l (dC, dI) (kT cyB cyI cyJ cyP) (qIG a0 jaK jfS ja1 jcp jbc jbV ja3 jbH jaT jh8 jaq jac jbI jbl jbn jba jaa jbA jbz jh8 jhy jiK jkp jkP jaT jbb jbr jaR jb6 jbb cyI jbQ jhy cyI jjV jaR jbs jbt jbo jbp jbk jcG jbf jbq jbE jbm jbi jdB jbs cyI jci jbt cyI jcj jb6 jbW jbL jcl jcc jdh jcc cyI jfl jcl cyI jfM jbW cyI jdN jbL cyI jdi jcG cyI jfT) sz)) (va_Qi (fun (r : Int32) (u : Int32 × NI × Value × Value × NI × NI) => Q r u.1 u.2.1 u.2.2.1 u.2.2.2.1 u.2.2.2.2.1 u.2.2.2.2.2) (cB (dC, dI) (kT cyB cyI cyJ cyP) (va_A (qIG a0 jaK jfS ja1 jcp jbc jbV ja3 jbH jaT jh8 jaq jac jbI jbl jbn jba jaa jbA jbz jh8 jhy jiK jkp jkP jaT jbb jbr jaR jb6 jbb cyI jbQ jhy cyI jjV jaR jbs jbt jbo jbp jbk jcG jbf jbq jbE jbm jbi jdB jbs cyI jci jbt cyI jcj jb6 jbW jbL jcl jcc jdh jcc cyI jfl jcl cyI jfM jbW cyI jdN jbL cyI jdi jcG cyI jfT) sz) (fun u : Int32 × NI × Value × Value × NI × NI => ((qIG a0 jaK jfS ja1 jcp jbc jbV ja3 jbH jaT jh8 jaq jac jbI jbl jbn jba jaa jbA u.1 jh8 jhy jiK u.2.2.1 u.2.2.2.1 jaT jbb jbr jaR jb6 jbb cyI jbQ jhy cyI u.2.1 jaR jbs jbt jbo jbp jbk jcG jbf jbq jbE jbm jbi jdB jbs cyI jci jbt cyI jcj jb6 jbW jbL jcl jcc jdh jcc cyI u.2.2.2.2.1 jcl cyI u.2.2.2.2.2 jbW cyI jdN jbL cyI jdi jcG cyI jfT) : va_W))) (va_A (qIG a0 jaK jfS ja1 jcp jbc jbV ja3 jbH jaT jh8 jaq jac jbI jbl jbn jba jaa jbA jbz jh8 jhy jiK jkp jkP jaT jbb jbr jaR jb6 jbb cyI jbQ jhy cyI jjV jaR jbs jbt jbo jbp jbk jcG jbf jbq jbE jbm jbi jdB jbs cyI jci jbt cyI jcj jb6 jbW jbL jcl jcc jdh jcc cyI jfl jcl cyI jfM jbW cyI jdN jbL cyI jdi jcG cyI jfT) sz)) (vx_X (fun _ => True) (fun (en : String) (u : Int32 × NI × Value × Value × NI × NI) (t : State) => E en u.1 u.2.1 u.2.2.1 u.2.2.2.1 u.2.2.2.2.1 u.2.2.2.2.2 ∧ cB (dC, dI) (kT cyB cyI cyJ cyP) (va_A (qIG a0 jaK jfS ja1 jcp jbc jbV ja3 jbH jaT jh8 jaq jac jbI jbl jbn jba jaa jbA jbz jh8 jhy jiK jkp jkP jaT jbb jbr jaR jb6 jbb cyI jbQ jhy cyI jjV jaR jbs jbt jbo jbp jbk jcG jbf jbq jbE jbm jbi jdB jbs cyI jci jbt cyI jcj jb6 jbW jbL jcl jcc jdh jcc cyI jfl jcl cyI jfM jbW cyI jdN jbL cyI jdi jcG cyI jfT) sz) (fun u : Int32 × NI × Value × Value × NI × NI => ((qIG a0 jaK jfS ja1 jcp jbc jbV ja3 jbH jaT jh8 jaq jac jbI jbl jbn jba jaa jbA u.1 jh8 jhy jiK u.2.2.1 u.2.2.2.1 jaT jbb jbr jaR jb6 jbb cyI jbQ jhy cyI u.2.1 jaR jbs jbt jbo jbp jbk jcG jbf jbq jbE jbm jbi jdB jbs cyI jci jbt cyI jcj jb6 jbW jbL jcl jcc jdh jcc cyI u.2.2.2.2.1 jcl cyI u.2.2.2.2.2 jbW cyI jdN jbL cyI jdi jcG cyI jfT) : va_W)) u t) (va_A (qIG a0 jaK jfS ja1 jcp jbc jbV ja3 jbH jaT jh8 jaq jac jbI jbl jbn jba jaa jbA jbz jh8 jhy jiK jkp jkP jaT jbb jbr jaR jb6 jbb cyI jbQ jhy cyI jjV jaR jbs jbt jbo jbp jbk jcG jbf jbq jbE jbm jbi jdB jbs cyI jci jbt cyI jcj jb6 jbW jbL jcl jcc jdh jcc cyI jfl jcl cyI jfM jbW cyI jdN jbL cyI jdi jcG cyI jfT) sz)) 2 12 (va_A (qIG a0 jaK jfS ja1 jcp jbc jbV ja3 jbH jaT jh8 jaq jac jbI jbl jbn jba jaa jbA jbz jh8 jhy jiK jkp jkP jaT jbb jbr jaR jb6 jbb cyI jbQ jhy cyI jjV jaR jbs jbt jbo jbp jbk jcG jbf jbq jbE jbm jbi jdB jbs cyI jci jbt cyI jcj jb6 jbW jbL jcl jcc jdh jcc cyI jfl jcl cyI jfM jbW cyI jdN jbL cyI jdi jcG cyI jfT) sz) := by
  refine vx_ofW (cc := cX10_march) (maxL := 5) (ret := (some .int)) (by decide) rfl ?_
  intro p e s m args below meth c s₁ B hml hnt hv
  obtain ⟨rfl, hsz, hP, hK, hD0, hNw, hXl, hXu, hXn, hXt⟩ := hv
  have hx := B.exec
  have hb := B.bytes
  have hr := B.returns
  have hts := atoms_spec (ws := wsX10_march) B.pre
  have hown : s.vm.findClass RX10 = some m.cls := findClass_of_methodNamed B.named
  have hlocks := B.notSynchronized
  subst hsz
  have hD := hD0.self (sz := s.heap.size)
  generalize hAe : va_A (qIG a0 jaK jfS ja1 jcp jbc jbV ja3 jbH jaT jh8 jaq jac jbI jbl jbn jba jaa jbA jbz jh8 jhy jiK jkp jkP jaT jbb jbr jaR jb6 jbb cyI jbQ jhy cyI jjV jaR jbs jbt jbo jbp jbk jcG jbf jbq jbE jbm jbi jdB jbs cyI jci jbt cyI jcj jb6 jbW jbL jcl jcc jdh jcc cyI jfl jcl cyI jfM jbW cyI jdN jbL cyI jdi jcG cyI jfT) s.heap.size = A at hD hXu hXn ⊢
  have hA : ∀ q : Nat, s.heap.size ≤ q → A q := fun q h => by rw [← hAe]; exact Or.inr h
  have hS : va_S A s.heap s.heap [] := va_S.rf
  have hP : va_P (dC, dI) vwCl (qIG a0 jaK jfS ja1 jcp jbc jbV ja3 jbH jaT jh8 jaq jac jbI jbl jbn jba jaa jbA jbz jh8 jhy jiK jkp jkP jaT jbb jbr jaR jb6 jbb cyI jbQ jhy cyI jjV jaR jbs jbt jbo jbp jbk jcG jbf jbq jbE jbm jbi jdB jbs cyI jci jbt cyI jcj jb6 jbW jbL jcl jcc jdh jcc cyI jfl jcl cyI jfM jbW cyI jdN jbL cyI jdi jcG cyI jfT) s.heap := hP
  have hl := lv_entry ([.ref a0, .int p1, .int p2, .int p3]) (n := 5) (nbq rfl)
  rw [lg_entry_eq]
  generalize (lg_sl ([.ref a0, .int p1, .int p2, .int p3]) ++ List.replicate (5 - (lg_sl ([.ref a0, .int p1, .int p2, .int p3])).length) Slot.unset).toArray = ls at hl ⊢
  have hl : lv_has ls 5 [(0, .ref a0), (1, .int p1), (2, .int p2), (3, .int p3)] := hl
  have hY : cfY l s A := ⟨hXl, hXu, hXn, hXt⟩
  have hXs : cfX l s c A := ⟨hnt, hY⟩
  have C0 : cfx p s m _ meth c cX10_march (some .int) wsX10_march RX10 5 A (dC, dI) (kT cyB cyI cyJ cyP) ∧ cfX l s c A := ⟨⟨hx, hb, hr, hts, hown, hlocks, hml, hA, hK, hNw⟩, hXs⟩
  clear hAe
  obtain ⟨H, hH⟩ : ∃ H, H = s.heap := ⟨_, rfl⟩
  rw [← hH] at hP ⊢
  have hS : va_S A s.heap H [] := by rw [hH]; exact va_S.rf
  have hS := hS
  refine lv_aload_n hx hb (qaa qkm 0 rfl) rfl (lv_at hl 0 rfl) ?_
  refine lv_iload_n hx hb (qaa qkm 1 rfl) rfl (lv_at hl 2 rfl) ?_
  refine lv_iconst (v := 1) hx hb (qaa qkm 2 rfl) (by decide) ?_
  refine lv_bipush (v := 96) hx hb (qaa qkm 3 rfl) (by decide) ?_
  obtain ⟨hCc, hPc, hDc, hFc⟩ := qac (ws' := (qajI a0 jaK jfS ja1 jcp jbc jbV ja3 jbH jaT jh8 jaq jac jbI jbl jbn jba jaa jbA jbz)) hP hD hS hA [0] (by decide +kernel) rfl
  refine vx_callv (vx_runV (As := [.int p2, .int 1, .int 96]) (rest := []) ⟨hx, hb, hml, hown, hts⟩ (qaV l dC dI cyB cyI cyJ cyP a0 H.size (jaK) (jfS) (ja1) (jcp) (jbc) (jbV) (ja3) (jbH) (.ref jaT) (.ref jh8) (jaq) (jac) (jbI) (jbl) (jbn) (jba) (jaa) (jbA) jbz p2 1 96 hw) (cwV 3 hts gX10_march_X10_needWithin rfl rfl rfl (by decide +kernel) ⟨nbq rfl, nbq rfl⟩) ⟨qav, va_recv (q := (RX10, TX10, 19)) hK hPc (ci := 10) (q0 := 0) rfl rfl, qbl hPc hK hDc hNw hY hS hFc⟩ rfl rfl hl.1 rfl (lv_room (nbq rfl)) (qaa qkm 4 rfl) ⟨nbq rfl, nbq rfl⟩) hS (fun q _ h => hFc q h) hFc (fun q _ h => hFc q h) (fun en ce q9 u t H1 locs ht hvm hpx hB hz1 hk1 hS hc9 hv9 hcl9 => ?_) (fun u t H1 locs ht hvm hw hB hz1 hk1 hS => ?_)
  · obtain ⟨x1, rfl⟩ : ∃ z, z = u := ⟨_, rfl⟩
    obtain ⟨hw, hP1, hK1, hD1⟩ := hB
    rw [ht] at hP1
    obtain ⟨hP, hD⟩ := qad (wr := (qaNQ jh8 jhy jiK jkp jkP jaT jbb jbr jaR jb6 jbb cyI jbQ jhy cyI jjV jaR jbs jbt jbo jbp jbk jcG jbf jbq jbE jbm jbi jdB jbs cyI jci jbt cyI jcj jb6 jbW jbL jcl jcc jdh jcc cyI jfl jcl cyI jfM jbW cyI jdN jbL cyI jdi jcG cyI jfT)) (w1 := (qajI a0 jaK jfS ja1 jcp jbc jbV ja3 jbH jaT jh8 jaq jac jbI jbl jbn jba jaa jbA x1)) (wn := (qIG a0 jaK jfS ja1 jcp jbc jbV ja3 jbH jaT jh8 jaq jac jbI jbl jbn jba jaa jbA x1 jh8 jhy jiK jkp jkP jaT jbb jbr jaR jb6 jbb cyI jbQ jhy cyI jjV jaR jbs jbt jbo jbp jbk jcG jbf jbq jbE jbm jbi jdB jbs cyI jci jbt cyI jcj jb6 jbW jbL jcl jcc jdh jcc cyI jfl jcl cyI jfM jbW cyI jdN jbL cyI jdi jcG cyI jfT)) hP hD [0] [1, 2, 3, 4, 5, 6, 7, 8, 9, 10, 11, 12, 13] [13, 0, 1, 2, 3, 4, 5, 6, 7, 8, 9, 10, 11, 12] hCc rfl (by decide +kernel) (by decide +kernel) (by decide +kernel) rfl hk1 hFc hP1 hD1
    generalize H1 = H at hP hS hc9 ⊢
    exact vx_out (fun x hx9 => (hXs.1 x hx9).elim) hlocks hc9 hv9 hcl9 (fun t2 ht2 hal2 => ⟨(x1, jjV, jkp, jkP, jfl, jfM), trivial, ⟨hw, by rw [ht2]; exact hP, va_K.moved hal2 hK, hD⟩, hS.F ht2⟩) hS.2.2 (nbq rfl) (nbq rfl)
  obtain ⟨x1, rfl⟩ : ∃ z, z = u := ⟨_, rfl⟩
  obtain ⟨hP1, hK1, hD1⟩ := hB
  rw [ht] at hP1
  obtain ⟨hP, hD⟩ := qad (wr := (qaNQ jh8 jhy jiK jkp jkP jaT jbb jbr jaR jb6 jbb cyI jbQ jhy cyI jjV jaR jbs jbt jbo jbp jbk jcG jbf jbq jbE jbm jbi jdB jbs cyI jci jbt cyI jcj jb6 jbW jbL jcl jcc jdh jcc cyI jfl jcl cyI jfM jbW cyI jdN jbL cyI jdi jcG cyI jfT)) (w1 := (qajI a0 jaK jfS ja1 jcp jbc jbV ja3 jbH jaT jh8 jaq jac jbI jbl jbn jba jaa jbA x1)) (wn := (qIG a0 jaK jfS ja1 jcp jbc jbV ja3 jbH jaT jh8 jaq jac jbI jbl jbn jba jaa jbA x1 jh8 jhy jiK jkp jkP jaT jbb jbr jaR jb6 jbb cyI jbQ jhy cyI jjV jaR jbs jbt jbo jbp jbk jcG jbf jbq jbE jbm jbi jdB jbs cyI jci jbt cyI jcj jb6 jbW jbL jcl jcc jdh jcc cyI jfl jcl cyI jfM jbW cyI jdN jbL cyI jdi jcG cyI jfT)) hP hD [0] [1, 2, 3, 4, 5, 6, 7, 8, 9, 10, 11, 12, 13] [13, 0, 1, 2, 3, 4, 5, 6, 7, 8, 9, 10, 11, 12] hCc rfl (by decide +kernel) (by decide +kernel) (by decide +kernel) rfl hk1 hFc hP1 hD1
  generalize H1 = H at hP hS ⊢
  refine lv_aload_n hx hb (qaa qkm 5 rfl) rfl (lv_at hl 0 rfl) ?_
  refine lv_iload_n hx hb (qaa qkm 6 rfl) rfl (lv_at hl 3 rfl) ?_
  refine lv_iconst (v := 0) hx hb (qaa qkm 7 rfl) (by decide) ?_
  refine lv_iconst (v := 3) hx hb (qaa qkm 8 rfl) (by decide) ?_
  obtain ⟨hCc, hPc, hDc, hFc⟩ := qac (ws' := (qajI a0 jaK jfS ja1 jcp jbc jbV ja3 jbH jaT jh8 jaq jac jbI jbl jbn jba jaa jbA x1)) hP hD hS hA [0] (by decide +kernel) rfl
  refine vx_callv (vx_runV (As := [.int p3, .int 0, .int 3]) (rest := []) ⟨hx, hb, hml, hown, hts⟩ (qaV l dC dI cyB cyI cyJ cyP a0 H.size (jaK) (jfS) (ja1) (jcp) (jbc) (jbV) (ja3) (jbH) (.ref jaT) (.ref jh8) (jaq) (jac) (jbI) (jbl) (jbn) (jba) (jaa) (jbA) x1 p3 0 3 hw) (cwV 3 hts gX10_march_X10_needWithin rfl rfl rfl (by decide +kernel) ⟨nbq rfl, nbq rfl⟩) ⟨qav, va_recv (q := (RX10, TX10, 19)) hK hPc (ci := 10) (q0 := 0) rfl rfl, qbl hPc hK hDc hNw hY hS hFc⟩ rfl rfl hl.1 rfl (lv_room (nbq rfl)) (qaa qkm 9 rfl) ⟨nbq rfl, nbq rfl⟩) hS (fun q _ h => hFc q h) hFc (fun q _ h => hFc q h) (fun en ce q9 u t H1 locs ht hvm hpx hB hz1 hk1 hS hc9 hv9 hcl9 => ?_) (fun u t H1 locs ht hvm hw hB hz1 hk1 hS => ?_)
  · obtain ⟨x2, rfl⟩ : ∃ z, z = u := ⟨_, rfl⟩
    obtain ⟨hw, hP1, hK1, hD1⟩ := hB
    rw [ht] at hP1
    obtain ⟨hP, hD⟩ := qad (wr := (qaNQ jh8 jhy jiK jkp jkP jaT jbb jbr jaR jb6 jbb cyI jbQ jhy cyI jjV jaR jbs jbt jbo jbp jbk jcG jbf jbq jbE jbm jbi jdB jbs cyI jci jbt cyI jcj jb6 jbW jbL jcl jcc jdh jcc cyI jfl jcl cyI jfM jbW cyI jdN jbL cyI jdi jcG cyI jfT)) (w1 := (qajI a0 jaK jfS ja1 jcp jbc jbV ja3 jbH jaT jh8 jaq jac jbI jbl jbn jba jaa jbA x2)) (wn := (qIG a0 jaK jfS ja1 jcp jbc jbV ja3 jbH jaT jh8 jaq jac jbI jbl jbn jba jaa jbA x2 jh8 jhy jiK jkp jkP jaT jbb jbr jaR jb6 jbb cyI jbQ jhy cyI jjV jaR jbs jbt jbo jbp jbk jcG jbf jbq jbE jbm jbi jdB jbs cyI jci jbt cyI jcj jb6 jbW jbL jcl jcc jdh jcc cyI jfl jcl cyI jfM jbW cyI jdN jbL cyI jdi jcG cyI jfT)) hP hD [0] [1, 2, 3, 4, 5, 6, 7, 8, 9, 10, 11, 12, 13] [13, 0, 1, 2, 3, 4, 5, 6, 7, 8, 9, 10, 11, 12] hCc rfl (by decide +kernel) (by decide +kernel) (by decide +kernel) rfl hk1 hFc hP1 hD1
    generalize H1 = H at hP hS hc9 ⊢
    exact vx_out (fun x hx9 => (hXs.1 x hx9).elim) hlocks hc9 hv9 hcl9 (fun t2 ht2 hal2 => ⟨(x2, jjV, jkp, jkP, jfl, jfM), trivial, ⟨hw, by rw [ht2]; exact hP, va_K.moved hal2 hK, hD⟩, hS.F ht2⟩) hS.2.2 (nbq rfl) (nbq rfl)
  obtain ⟨x2, rfl⟩ : ∃ z, z = u := ⟨_, rfl⟩
  obtain ⟨hP1, hK1, hD1⟩ := hB
  rw [ht] at hP1
  obtain ⟨hP, hD⟩ := qad (wr := (qaNQ jh8 jhy jiK jkp jkP jaT jbb jbr jaR jb6 jbb cyI jbQ jhy cyI jjV jaR jbs jbt jbo jbp jbk jcG jbf jbq jbE jbm jbi jdB jbs cyI jci jbt cyI jcj jb6 jbW jbL jcl jcc jdh jcc cyI jfl jcl cyI jfM jbW cyI jdN jbL cyI jdi jcG cyI jfT)) (w1 := (qajI a0 jaK jfS ja1 jcp jbc jbV ja3 jbH jaT jh8 jaq jac jbI jbl jbn jba jaa jbA x2)) (wn := (qIG a0 jaK jfS ja1 jcp jbc jbV ja3 jbH jaT jh8 jaq jac jbI jbl jbn jba jaa jbA x2 jh8 jhy jiK jkp jkP jaT jbb jbr jaR jb6 jbb cyI jbQ jhy cyI jjV jaR jbs jbt jbo jbp jbk jcG jbf jbq jbE jbm jbi jdB jbs cyI jci jbt cyI jcj jb6 jbW jbL jcl jcc jdh jcc cyI jfl jcl cyI jfM jbW cyI jdN jbL cyI jdi jcG cyI jfT)) hP hD [0] [1, 2, 3, 4, 5, 6, 7, 8, 9, 10, 11, 12, 13] [13, 0, 1, 2, 3, 4, 5, 6, 7, 8, 9, 10, 11, 12] hCc rfl (by decide +kernel) (by decide +kernel) (by decide +kernel) rfl hk1 hFc hP1 hD1
  generalize H1 = H at hP hS ⊢
  refine lv_aload_n hx hb (qaa qkm 10 rfl) rfl (lv_at hl 0 rfl) ?_
  refine va_get (D := (dC, dI)) (ci := 10) (v := .ref jh8) (C := RX10) (T := TX10) (N := 19) hx hb hts qws hown hK hP 0 rfl rfl 9 (by decide) (hts _ qAh) (fun _ h9 => h9) rfl (qaa qkm 11 rfl) ?_
  refine lv_aload_n hx hb (qaa qkm 12 rfl) rfl (lv_at hl 0 rfl) ?_
  refine va_get (D := (dC, dI)) (ci := 10) (v := .ref jaT) (C := RX10) (T := TX10) (N := 19) hx hb hts qws hown hK hP 0 rfl rfl 8 (by decide) (hts _ qat8) (fun _ h9 => h9) rfl (qaa qkm 13 rfl) ?_
  obtain ⟨hCc, hPc, hDc, hFc⟩ := qac (ws' := (qbhw jh8 jhy jiK jkp jkP jaT jbb jbr jaR jb6 jbb cyI jbQ jhy cyI jjV)) hP hD hS hA [1, 2, 3, 4] (by decide +kernel) rfl
  refine va_callv (va_runV (As := [.ref jaT]) (rest := []) ⟨hx, hb, hml, hown, hts⟩ (qTZ l dC dI cyB cyI cyJ cyP jh8 jaT jaR jb6 jbb jhy H.size (jiK) (jkp) (jkP) (jbr) jbQ jjV hw) (cwV 1 hts gX10_march_X1_copyFrom rfl rfl rfl (by decide +kernel) ⟨nbq rfl, nbq rfl⟩) ⟨qab, va_recv (q := (RX1, TX1, 4)) hK hPc (ci := 1) (q0 := 0) rfl rfl, qae hPc hK hDc hNw⟩ rfl rfl hl.1 rfl (lv_room (nbq rfl)) (qaa qkm 14 rfl) ⟨nbq rfl, nbq rfl⟩) hS (fun q _ h => hFc q h) hFc (fun u t H1 locs ht hvm hw hB hz1 hk1 hS => ?_)
  obtain ⟨f3, rfl⟩ : ∃ z, z = u := ⟨_, rfl⟩
  obtain ⟨hP1, hK1, hD1⟩ := hB
  rw [ht] at hP1
  obtain ⟨hP, hD⟩ := qad (wr := [(a0, .inr (10, [jaK, jfS, ja1, jcp, jbc, jbV, ja3, jbH, .ref jaT, .ref jh8, jaq, jac, jbI, jbl, jbn, jba, jaa, jbA, .int x2])), (jaR, .inr (2, [.ref jbs, .ref jbt, jbo, jbp, jbk, .ref jcG, jbf, jbq, .int jbE, .int jbm, jbi, .int jdB])), (jbs, .inl (cyI, 8, .inl jci)), (jbt, .inl (cyI, 8, .inl jcj)), (jb6, .inr (4, [.ref jbW, .ref jbL, .ref jcl, .ref jcc, .int jdh])), (jcc, .inl (cyI, 8, .inl jfl)), (jcl, .inl (cyI, 150, .inl jfM)), (jbW, .inl (cyI, 150, .inl jdN)), (jbL, .inl (cyI, 150, .inl jdi)), (jcG, .inl (cyI, 6, .inl jfT))]) (w1 := [(jh8, .inr (1, [.ref jhy, jiK, .ref jaR, .ref jb6])), (jaT, .inr (1, [.ref jbb, jbr, .ref jaR, .ref jb6])), (jbb, .inl (cyI, 64, .inl jbQ)), (jhy, .inl (cyI, 64, .inl f3))]) (wn := (qazm a0 jaK jfS ja1 jcp jbc jbV ja3 jbH jaT jh8 jaq jac jbI jbl jbn jba jaa jbA x2 jh8 jhy jiK jaR jb6 jaT jbb jbr jaR jb6 jbb cyI jbQ jhy cyI f3 jaR jbs jbt jbo jbp jbk jcG jbf jbq jbE jbm jbi jdB jbs cyI jci jbt cyI jcj jb6 jbW jbL jcl jcc jdh jcc cyI jfl jcl cyI jfM jbW cyI jdN jbL cyI jdi jcG cyI jfT)) hP hD [1, 2, 3, 4] [0, 5, 6, 7, 8, 9, 10, 11, 12, 13] [0, 10, 11, 12, 13, 1, 2, 3, 4, 5, 6, 7, 8, 9] hCc rfl (by decide +kernel) (by decide +kernel) (by decide +kernel) rfl hk1 hFc hP1 hD1
  generalize H1 = H at hP hS ⊢
  refine lv_aload_n hx hb (qaa qkm 15 rfl) rfl (lv_at hl 0 rfl) ?_
  refine va_get (D := (dC, dI)) (ci := 10) (v := .ref jh8) (C := RX10) (T := TX10) (N := 19) hx hb hts qws hown hK hP 0 rfl rfl 9 (by decide) (hts _ qAh) (fun _ h9 => h9) rfl (qaa qyK 0 rfl) ?_
  refine lv_iload_n hx hb (qaa qyK 1 rfl) rfl (lv_at hl 1 rfl) ?_
  refine lv_iload_n hx hb (qaa qyK 2 rfl) rfl (lv_at hl 2 rfl) ?_
  obtain ⟨hCc, hPc, hDc, hFc⟩ := qac (ws' := (qp0 jh8 jhy jiK jaR jb6 jaR jbs jbt jbo jbp jbk jcG jbf jbq jbE jbm jbi jdB jhy cyI f3 jbs cyI jci jbt cyI jcj jb6 jbW jbL jcl jcc jdh jcc cyI jfl jcl cyI jfM jbW cyI jdN jbL cyI jdi jcG cyI jfT)) hP hD hS hA [1, 5, 4, 6, 7, 8, 9, 10, 11, 12, 13] (by decide +kernel) rfl
  refine va_calli (va_runV (As := [.int p1, .int p2]) (rest := []) ⟨hx, hb, hml, hown, hts⟩ (q7k l dC dI cyB cyI cyJ cyP jh8 jaR jhy jbs jbt jb6 jcc jcl jbW jbL jcG H.size (jiK) (jbo) (jbp) (jbk) (jbf) (jbq) (jbi) jbE jbm jdB jci jcj jdh jdN jdi jfT jfl jfM f3 p1 p2 hw) (cwV 2 hts gX10_march_X1_drawDays rfl rfl rfl (by decide +kernel) ⟨nbq rfl, nbq rfl⟩) ⟨qab, va_recv (q := (RX1, TX1, 4)) hK hPc (ci := 1) (q0 := 0) rfl rfl, qae hPc hK hDc hNw⟩ rfl rfl hl.1 rfl (lv_room (nbq rfl)) (qaa qyK 3 rfl) ⟨nbq rfl, nbq rfl⟩) hS (fun q _ h => hFc q h) hFc (fun r7 u t H1 locs ht hvm hw hB hz1 hk1 hS => ?_)
  obtain ⟨f4, f5, f6⟩ := u
  obtain ⟨hP1, hK1, hD1⟩ := hB
  rw [ht] at hP1
  obtain ⟨hP, hD⟩ := qad (wr := [(a0, .inr (10, [jaK, jfS, ja1, jcp, jbc, jbV, ja3, jbH, .ref jaT, .ref jh8, jaq, jac, jbI, jbl, jbn, jba, jaa, jbA, .int x2])), (jaT, .inr (1, [.ref jbb, jbr, .ref jaR, .ref jb6])), (jbb, .inl (cyI, 64, .inl jbQ))]) (w1 := (qp0 jh8 jhy jiK jaR jb6 jaR jbs jbt jbo jbp jbk jcG jbf jbq jbE jbm jbi jdB jhy cyI f6 jbs cyI jci jbt cyI jcj jb6 jbW jbL jcl jcc jdh jcc cyI f4 jcl cyI f5 jbW cyI jdN jbL cyI jdi jcG cyI jfT)) (wn := (qazm a0 jaK jfS ja1 jcp jbc jbV ja3 jbH jaT jh8 jaq jac jbI jbl jbn jba jaa jbA x2 jh8 jhy jiK jaR jb6 jaT jbb jbr jaR jb6 jbb cyI jbQ jhy cyI f6 jaR jbs jbt jbo jbp jbk jcG jbf jbq jbE jbm jbi jdB jbs cyI jci jbt cyI jcj jb6 jbW jbL jcl jcc jdh jcc cyI f4 jcl cyI f5 jbW cyI jdN jbL cyI jdi jcG cyI jfT)) hP hD [1, 5, 4, 6, 7, 8, 9, 10, 11, 12, 13] [0, 2, 3] [0, 3, 1, 2, 5, 4, 6, 7, 8, 9, 10, 11, 12, 13] hCc rfl (by decide +kernel) (by decide +kernel) (by decide +kernel) rfl hk1 hFc hP1 hD1
  generalize H1 = H at hP hS ⊢
  refine lv_istore (lv' := [(4, .int r7), (0, .ref a0), (1, .int p1), (2, .int p2), (3, .int p3)]) hx hb (qaa qyK 4 rfl) hl (by decide) rfl (fun ls hl => ?_)
  refine lv_iload_n hx hb (qaa qyK 5 rfl) rfl (lv_at hl 4 rfl) ?_
  by_cases c8 : p3.toInt < 0 ∨ 2 < p3.toInt
  · have hw := hw.1 c8
    refine lv_tableOut (tgt := 83) hx hb dX10_march_38 c8 (by decide) ?_
    refine lv_aload_n hx hb (qaa qkU 10 rfl) rfl (lv_at hl 1 rfl) ?_
    refine va_get (D := (dC, dI)) (ci := 10) (v := .ref jh8) (C := RX10) (T := TX10) (N := 19) hx hb hts qws hown hK hP 0 rfl rfl 9 (by decide) (hts _ qAh) (fun _ h9 => h9) rfl (qaa qkU 11 rfl) ?_
    obtain ⟨hCc, hPc, hDc, hFc⟩ := qac (ws' := (qGV jh8 jhy jiK jaR jb6 jhy cyI f6)) hP hD hS hA [1, 4] (by decide +kernel) rfl
    refine va_calli (va_runV (As := []) (rest := []) ⟨hx, hb, hml, hown, hts⟩ (qag9 l dC dI cyB cyI cyJ cyP jh8 jhy H.size (jiK) (.ref jaR) (.ref jb6) f6 hw) (cwV 0 hts gX10_march_X1_day rfl rfl rfl (by decide +kernel) ⟨nbq rfl, nbq rfl⟩) ⟨qab, va_recv (q := (RX1, TX1, 4)) hK hPc (ci := 1) (q0 := 0) rfl rfl, qae hPc hK hDc hNw⟩ rfl rfl hl.1 rfl (lv_room (nbq rfl)) (qaa qkU 12 rfl) ⟨nbq rfl, nbq rfl⟩) hS (fun q _ h => hFc q h) hFc (fun r9 u t H1 locs ht hvm hw hB hz1 hk1 hS => ?_)
    obtain ⟨hP1, hK1, hD1⟩ := hB
    rw [ht] at hP1
    obtain ⟨hP, hD⟩ := qad (wr := (qa59 a0 jaK jfS ja1 jcp jbc jbV ja3 jbH jaT jh8 jaq jac jbI jbl jbn jba jaa jbA x2 jaT jbb jbr jaR jb6 jbb cyI jbQ jaR jbs jbt jbo jbp jbk jcG jbf jbq jbE jbm jbi jdB jbs cyI jci jbt cyI jcj jb6 jbW jbL jcl jcc jdh jcc cyI f4 jcl cyI f5 jbW cyI jdN jbL cyI jdi jcG cyI jfT)) (w1 := (qGV jh8 jhy jiK jaR jb6 jhy cyI f6)) (wn := (qazm a0 jaK jfS ja1 jcp jbc jbV ja3 jbH jaT jh8 jaq jac jbI jbl jbn jba jaa jbA x2 jh8 jhy jiK jaR jb6 jaT jbb jbr jaR jb6 jbb cyI jbQ jhy cyI f6 jaR jbs jbt jbo jbp jbk jcG jbf jbq jbE jbm jbi jdB jbs cyI jci jbt cyI jcj jb6 jbW jbL jcl jcc jdh jcc cyI f4 jcl cyI f5 jbW cyI jdN jbL cyI jdi jcG cyI jfT)) hP hD [1, 4] [0, 2, 3, 5, 6, 7, 8, 9, 10, 11, 12, 13] [0, 12, 1, 2, 13, 3, 4, 5, 6, 7, 8, 9, 10, 11] hCc rfl (by decide +kernel) (by decide +kernel) (by decide +kernel) rfl hk1 hFc hP1 hD1
    generalize H1 = H at hP hS ⊢
    exact vx_ret (W.widen (k := 2) (n := 12) (nbq rfl) (nbq rfl) (W.iret (v := r9) hx hb hr (fun t ht hW => ⟨⟨r9, (x2, f6, (.ref jaR), (.ref jb6), f4, f5), rfl, hw, by rw [ht]; exact hP, va_K.moved hW.alike hK, hD⟩, hS.F ht⟩) hS.2.2 (qaa qkU 13 rfl)))
  · have hw := hw.2
    rcases qaw0 c8 with c8 | c8 | c8
    · have hw := hw.1 c8
      refine lv_tableIn (tgt := 64) (off := 26) hx hb dX10_march_38 (by rw [c8]; decide) (by rw [c8]; decide) (by rw [c8]; decide) (by decide) ?_
      refine lv_iload hx hb (qaa qkU 0 rfl) (lv_at hl 0 rfl) ?_
      exact vx_ret (W.widen (k := 2) (n := 12) (nbq rfl) (nbq rfl) (W.iret (v := r7) hx hb hr (fun t ht hW => ⟨⟨r7, (x2, f6, (.ref jaR), (.ref jb6), f4, f5), rfl, hw, by rw [ht]; exact hP, va_K.moved hW.alike hK, hD⟩, hS.F ht⟩) hS.2.2 (qaa qkU 1 rfl)))
    · have hw := hw.2.1 c8
      refine lv_tableIn (tgt := 67) (off := 29) hx hb dX10_march_38 (by rw [c8]; decide) (by rw [c8]; decide) (by rw [c8]; decide) (by decide) ?_
      refine lv_aload_n hx hb (qaa qkU 2 rfl) rfl (lv_at hl 1 rfl) ?_
      refine va_get (D := (dC, dI)) (ci := 10) (v := .ref jh8) (C := RX10) (T := TX10) (N := 19) hx hb hts qws hown hK hP 0 rfl rfl 9 (by decide) (hts _ qAh) (fun _ h9 => h9) rfl (qaa qkU 3 rfl) ?_
      obtain ⟨hCc, hPc, hDc, hFc⟩ := qac (ws' := (qGV jh8 jhy jiK jaR jb6 jhy cyI f6)) hP hD hS hA [1, 4] (by decide +kernel) rfl
      refine va_calli (va_runV (As := []) (rest := []) ⟨hx, hb, hml, hown, hts⟩ (qLZ l dC dI cyB cyI cyJ cyP jh8 jhy H.size (jiK) (.ref jaR) (.ref jb6) f6 hw) (cwV 0 hts gX10_march_X1_caughtOnes rfl rfl rfl (by decide +kernel) ⟨nbq rfl, nbq rfl⟩) ⟨qab, va_recv (q := (RX1, TX1, 4)) hK hPc (ci := 1) (q0 := 0) rfl rfl, qae hPc hK hDc hNw⟩ rfl rfl hl.1 rfl (lv_room (nbq rfl)) (qaa qkU 4 rfl) ⟨nbq rfl, nbq rfl⟩) hS (fun q _ h => hFc q h) hFc (fun r10 u t H1 locs ht hvm hw hB hz1 hk1 hS => ?_)
      obtain ⟨hP1, hK1, hD1⟩ := hB
      rw [ht] at hP1
      obtain ⟨hP, hD⟩ := qad (wr := (qa59 a0 jaK jfS ja1 jcp jbc jbV ja3 jbH jaT jh8 jaq jac jbI jbl jbn jba jaa jbA x2 jaT jbb jbr jaR jb6 jbb cyI jbQ jaR jbs jbt jbo jbp jbk jcG jbf jbq jbE jbm jbi jdB jbs cyI jci jbt cyI jcj jb6 jbW jbL jcl jcc jdh jcc cyI f4 jcl cyI f5 jbW cyI jdN jbL cyI jdi jcG cyI jfT)) (w1 := (qGV jh8 jhy jiK jaR jb6 jhy cyI f6)) (wn := (qazm a0 jaK jfS ja1 jcp jbc jbV ja3 jbH jaT jh8 jaq jac jbI jbl jbn jba jaa jbA x2 jh8 jhy jiK jaR jb6 jaT jbb jbr jaR jb6 jbb cyI jbQ jhy cyI f6 jaR jbs jbt jbo jbp jbk jcG jbf jbq jbE jbm jbi jdB jbs cyI jci jbt cyI jcj jb6 jbW jbL jcl jcc jdh jcc cyI f4 jcl cyI f5 jbW cyI jdN jbL cyI jdi jcG cyI jfT)) hP hD [1, 4] [0, 2, 3, 5, 6, 7, 8, 9, 10, 11, 12, 13] [0, 12, 1, 2, 13, 3, 4, 5, 6, 7, 8, 9, 10, 11] hCc rfl (by decide +kernel) (by decide +kernel) (by decide +kernel) rfl hk1 hFc hP1 hD1
      generalize H1 = H at hP hS ⊢
      exact vx_ret (W.widen (k := 2) (n := 12) (nbq rfl) (nbq rfl) (W.iret (v := r10) hx hb hr (fun t ht hW => ⟨⟨r10, (x2, f6, (.ref jaR), (.ref jb6), f4, f5), rfl, hw, by rw [ht]; exact hP, va_K.moved hW.alike hK, hD⟩, hS.F ht⟩) hS.2.2 (qaa qkU 5 rfl)))
    · have hw := hw.2.2 c8
      refine lv_tableIn (tgt := 75) (off := 37) hx hb dX10_march_38 (by rw [c8]; decide) (by rw [c8]; decide) (by rw [c8]; decide) (by decide) ?_
      refine lv_aload_n hx hb (qaa qkU 6 rfl) rfl (lv_at hl 1 rfl) ?_
      refine va_get (D := (dC, dI)) (ci := 10) (v := .ref jh8) (C := RX10) (T := TX10) (N := 19) hx hb hts qws hown hK hP 0 rfl rfl 9 (by decide) (hts _ qAh) (fun _ h9 => h9) rfl (qaa qkU 7 rfl) ?_
      obtain ⟨hCc, hPc, hDc, hFc⟩ := qac (ws' := (qa8c jh8 jhy jiK jaR jb6 jaR jbs jbt jbo jbp jbk jcG jbf jbq jbE jbm jbi jdB jhy cyI f6)) hP hD hS hA [1, 5, 4] (by decide +kernel) rfl
      refine va_calli (va_runV (As := []) (rest := []) ⟨hx, hb, hml, hown, hts⟩ (q6m l dC dI cyB cyI cyJ cyP jh8 jaR jhy H.size (jiK) (.ref jb6) (.ref jbs) (.ref jbt) (jbo) (jbp) (jbk) (.ref jcG) (jbf) (jbq) (.int jbE) (jbi) (.int jdB) jbm f6 hw) (cwV 0 hts gX10_march_X1_strongTogether rfl rfl rfl (by decide +kernel) ⟨nbq rfl, nbq rfl⟩) ⟨qab, va_recv (q := (RX1, TX1, 4)) hK hPc (ci := 1) (q0 := 0) rfl rfl, qae hPc hK hDc hNw⟩ rfl rfl hl.1 rfl (lv_room (nbq rfl)) (qaa qkU 8 rfl) ⟨nbq rfl, nbq rfl⟩) hS (fun q _ h => hFc q h) hFc (fun r11 u t H1 locs ht hvm hw hB hz1 hk1 hS => ?_)
      obtain ⟨hP1, hK1, hD1⟩ := hB
      rw [ht] at hP1
      obtain ⟨hP, hD⟩ := qad (wr := [(a0, .inr (10, [jaK, jfS, ja1, jcp, jbc, jbV, ja3, jbH, .ref jaT, .ref jh8, jaq, jac, jbI, jbl, jbn, jba, jaa, jbA, .int x2])), (jaT, .inr (1, [.ref jbb, jbr, .ref jaR, .ref jb6])), (jbb, .inl (cyI, 64, .inl jbQ)), (jbs, .inl (cyI, 8, .inl jci)), (jbt, .inl (cyI, 8, .inl jcj)), (jb6, .inr (4, [.ref jbW, .ref jbL, .ref jcl, .ref jcc, .int jdh])), (jcc, .inl (cyI, 8, .inl f4)), (jcl, .inl (cyI, 150, .inl f5)), (jbW, .inl (cyI, 150, .inl jdN)), (jbL, .inl (cyI, 150, .inl jdi)), (jcG, .inl (cyI, 6, .inl jfT))]) (w1 := (qa8c jh8 jhy jiK jaR jb6 jaR jbs jbt jbo jbp jbk jcG jbf jbq jbE jbm jbi jdB jhy cyI f6)) (wn := (qazm a0 jaK jfS ja1 jcp jbc jbV ja3 jbH jaT jh8 jaq jac jbI jbl jbn jba jaa jbA x2 jh8 jhy jiK jaR jb6 jaT jbb jbr jaR jb6 jbb cyI jbQ jhy cyI f6 jaR jbs jbt jbo jbp jbk jcG jbf jbq jbE jbm jbi jdB jbs cyI jci jbt cyI jcj jb6 jbW jbL jcl jcc jdh jcc cyI f4 jcl cyI f5 jbW cyI jdN jbL cyI jdi jcG cyI jfT)) hP hD [1, 5, 4] [0, 2, 3, 6, 7, 8, 9, 10, 11, 12, 13] [0, 11, 1, 2, 13, 12, 3, 4, 5, 6, 7, 8, 9, 10] hCc rfl (by decide +kernel) (by decide +kernel) (by decide +kernel) rfl hk1 hFc hP1 hD1
      generalize H1 = H at hP hS ⊢
      exact vx_ret (W.widen (k := 2) (n := 12) (nbq rfl) (nbq rfl) (W.iret (v := r11) hx hb hr (fun t ht hW => ⟨⟨r11, (x2, f6, (.ref jaR), (.ref jb6), f4, f5), rfl, hw, by rw [ht]; exact hP, va_K.moved hW.alike hK, hD⟩, hS.F ht⟩) hS.2.2 (qaa qkU 9 rfl)))
theorem qazP : (.classLink RL 13 "java/lang/IllegalArgumentException" : Cond) ∈ wsL_march := qafg 595 (by decide +kernel)
theorem qaSs : (.codeWith yL_march cL_march 6 (some .int) [(0, 12, 15, 13)] : Cond) ∈ wsL_march := qafg 4032 (by decide +kernel)
set_option maxHeartbeats 4000000 in
set_option maxRecDepth 100000 in
theorem qa2M (l : Launch) (dC : Nat → ClassId) (dI : Nat → Nat → Nat) (cyB cyI cyJ cyP : ClassId) (a0 a4 jh8 jaT jbb jhy jaR jbs jbt jb6 jcc jcl jbW jbL jcG sz : Nat) (jaK ja1 jbc jbV ja3 jbH jaq jac jbI jbl jbn jba jaa jbA jiK jbr jbo jbp jbk jbf jbq jbi : Value) (n4 : Nat) (jbQ : NI) (jbE jbm jdB : Int32) (jci jcj : NI) (jdh : Int32) (jdN jdi jfT : NI) (jbz : Int32) (jjV : NI) (jkp jkP : Value) (jfl jfM : NI) (f4 : Nat → Int64) (p1 p2 p3 : Int32) {Q : Int32 → Int32 → NI → Value → Value → NI → NI → (Nat → Int64) → Prop} (hw : qaLu jaR jb6 n4 jbQ jbE jbm jdB jci jcj jdh jdN jdi jfT jbz jjV jkp jkP jfl jfM f4 p1 p2 p3 Q) : Met l yL_march wsL_march ({ frames := 9, cells := 2, slots := 12, locals := 188 }) (va_Pc [.ref a0, .int p1, .int p2, .int p3, .ref a4] (cPx l (dC, dI) (kT cyB cyI cyJ cyP) (qLV a0 jaK jaR ja1 jb6 jbc jbV ja3 jbH jaT jh8 jaq jac jbI jbl jbn jba jaa jbA jbz jh8 jhy jiK jkp jkP jaT jbb jbr jaR jb6 jbb cyI jbQ jhy cyI jjV jaR jbs jbt jbo jbp jbk jcG jbf jbq jbE jbm jbi jdB jbs cyI jci jbt cyI jcj jb6 jbW jbL jcl jcc jdh jcc cyI jfl jcl cyI jfM jbW cyI jdN jbL cyI jdi jcG cyI jfT a4 cyJ n4 f4) sz)) (va_Qi (fun (r : Int32) (u : Int32 × NI × Value × Value × NI × NI × (Nat → Int64)) => Q r u.1 u.2.1 u.2.2.1 u.2.2.2.1 u.2.2.2.2.1 u.2.2.2.2.2.1 u.2.2.2.2.2.2) (cB (dC, dI) (kT cyB cyI cyJ cyP) (va_A (qLV a0 jaK jaR ja1 jb6 jbc jbV ja3 jbH jaT jh8 jaq jac jbI jbl jbn jba jaa jbA jbz jh8 jhy jiK jkp jkP jaT jbb jbr jaR jb6 jbb cyI jbQ jhy cyI jjV jaR jbs jbt jbo jbp jbk jcG jbf jbq jbE jbm jbi jdB jbs cyI jci jbt cyI jcj jb6 jbW jbL jcl jcc jdh jcc cyI jfl jcl cyI jfM jbW cyI jdN jbL cyI jdi jcG cyI jfT a4 cyJ n4 f4) sz) (fun u : Int32 × NI × Value × Value × NI × NI × (Nat → Int64) => ((qLV a0 jaK jaR ja1 jb6 jbc jbV ja3 jbH jaT jh8 jaq jac jbI jbl jbn jba jaa jbA u.1 jh8 jhy jiK u.2.2.1 u.2.2.2.1 jaT jbb jbr jaR jb6 jbb cyI jbQ jhy cyI u.2.1 jaR jbs jbt jbo jbp jbk jcG jbf jbq jbE jbm jbi jdB jbs cyI jci jbt cyI jcj jb6 jbW jbL jcl jcc jdh jcc cyI u.2.2.2.2.1 jcl cyI u.2.2.2.2.2.1 jbW cyI jdN jbL cyI jdi jcG cyI jfT a4 cyJ n4 u.2.2.2.2.2.2) : va_W))) (va_A (qLV a0 jaK jaR ja1 jb6 jbc jbV ja3 jbH jaT jh8 jaq jac jbI jbl jbn jba jaa jbA jbz jh8 jhy jiK jkp jkP jaT jbb jbr jaR jb6 jbb cyI jbQ jhy cyI jjV jaR jbs jbt jbo jbp jbk jcG jbf jbq jbE jbm jbi jdB jbs cyI jci jbt cyI jcj jb6 jbW jbL jcl jcc jdh jcc cyI jfl jcl cyI jfM jbW cyI jdN jbL cyI jdi jcG cyI jfT a4 cyJ n4 f4) sz)) 2 12 (va_A (qLV a0 jaK jaR ja1 jb6 jbc jbV ja3 jbH jaT jh8 jaq jac jbI jbl jbn jba jaa jbA jbz jh8 jhy jiK jkp jkP jaT jbb jbr jaR jb6 jbb cyI jbQ jhy cyI jjV jaR jbs jbt jbo jbp jbk jcG jbf jbq jbE jbm jbi jdB jbs cyI jci jbt cyI jcj jb6 jbW jbL jcl jcc jdh jcc cyI jfl jcl cyI jfM jbW cyI jdN jbL cyI jdi jcG cyI jfT a4 cyJ n4 f4) sz) := by
  refine va_MetW (cc := cL_march) (maxL := 6) (ret := (some .int)) (by decide) rfl ?_
  intro p e s m args below meth c s₁ B hml hv
  obtain ⟨rfl, hsz, hP, hK, hD0, hNw, hXl, hXu, hXn, hXt⟩ := hv
  have hx := B.exec
  have hb := B.bytes
  have hr := B.returns
  have hts := atoms_spec (ws := wsL_march) B.pre
  have hown : s.vm.findClass RL = some m.cls := findClass_of_methodNamed B.named
  have hlocks := B.notSynchronized
  subst hsz
  have hD := hD0.self (sz := s.heap.size)
  generalize hAe : va_A (qLV a0 jaK jaR ja1 jb6 jbc jbV ja3 jbH jaT jh8 jaq jac jbI jbl jbn jba jaa jbA jbz jh8 jhy jiK jkp jkP jaT jbb jbr jaR jb6 jbb cyI jbQ jhy cyI jjV jaR jbs jbt jbo jbp jbk jcG jbf jbq jbE jbm jbi jdB jbs cyI jci jbt cyI jcj jb6 jbW jbL jcl jcc jdh jcc cyI jfl jcl cyI jfM jbW cyI jdN jbL cyI jdi jcG cyI jfT a4 cyJ n4 f4) s.heap.size = A at hD hXu hXn ⊢
  have hA : ∀ q : Nat, s.heap.size ≤ q → A q := fun q h => by rw [← hAe]; exact Or.inr h
  have hS : va_S A s.heap s.heap [] := va_S.rf
  have hP : va_P (dC, dI) vwCl (qLV a0 jaK jaR ja1 jb6 jbc jbV ja3 jbH jaT jh8 jaq jac jbI jbl jbn jba jaa jbA jbz jh8 jhy jiK jkp jkP jaT jbb jbr jaR jb6 jbb cyI jbQ jhy cyI jjV jaR jbs jbt jbo jbp jbk jcG jbf jbq jbE jbm jbi jdB jbs cyI jci jbt cyI jcj jb6 jbW jbL jcl jcc jdh jcc cyI jfl jcl cyI jfM jbW cyI jdN jbL cyI jdi jcG cyI jfT a4 cyJ n4 f4) s.heap := hP
  have hl := lv_entry ([.ref a0, .int p1, .int p2, .int p3, .ref a4]) (n := 6) (nbq rfl)
  rw [lg_entry_eq]
  generalize (lg_sl ([.ref a0, .int p1, .int p2, .int p3, .ref a4]) ++ List.replicate (6 - (lg_sl ([.ref a0, .int p1, .int p2, .int p3, .ref a4])).length) Slot.unset).toArray = ls at hl ⊢
  have hl : lv_has ls 6 [(0, .ref a0), (1, .int p1), (2, .int p2), (3, .int p3), (4, .ref a4)] := hl
  have hY : cfY l s A := ⟨hXl, hXu, hXn, hXt⟩
  have hTb := vx_table (x := yL_march) B (hts _ qaSs)
  clear hAe
  obtain ⟨H, hH⟩ : ∃ H, H = s.heap := ⟨_, rfl⟩
  rw [← hH] at hP ⊢
  have hS : va_S A s.heap H [] := by rw [hH]; exact va_S.rf
  have hS := hS
  refine lv_aload hx hb (qaa qo7 0 rfl) (lv_at hl 4 rfl) ?_
  refine lv_iconst (v := 0) hx hb (qaa qo7 1 rfl) (by decide) ?_
  refine lv_aload_n hx hb (qaa qo7 2 rfl) rfl (lv_at hl 0 rfl) ?_
  refine lv_iload_n hx hb (qaa qo7 3 rfl) rfl (lv_at hl 1 rfl) ?_
  refine lv_iload_n hx hb (qaa qo7 4 rfl) rfl (lv_at hl 2 rfl) ?_
  refine lv_iload_n hx hb (qaa qo7 5 rfl) rfl (lv_at hl 3 rfl) ?_
  obtain ⟨hCc, hPc, hDc, hFc⟩ := qac (ws' := (qaX4 a0 jaK jaR ja1 jb6 jbc jbV ja3 jbH jaT jh8 jaq jac jbI jbl jbn jba jaa jbA jbz jh8 jhy jiK jkp jkP jaT jbb jbr jaR jb6 jbb cyI jbQ jhy cyI jjV jaR jbs jbt jbo jbp jbk jcG jbf jbq jbE jbm jbi jdB jbs cyI jci jbt cyI jcj jb6 jbW jbL jcl jcc jdh jcc cyI jfl jcl cyI jfM jbW cyI jdN jbL cyI jdi jcG cyI jfT)) hP hD hS hA [0, 1, 2, 3, 4, 5, 6, 7, 8, 9, 10, 11, 12, 13] (by decide +kernel) rfl
  refine vx_calli (vx_runV (As := [.int p1, .int p2, .int p3]) (rest := [.int 0, .ref a4]) ⟨hx, hb, hml, hown, hts⟩ (qaVZ l dC dI cyB cyI cyJ cyP a0 jh8 jaT jbb jhy jaR jb6 jbs jbt jcc jcl jbW jbL jcG H.size (jaK) (.ref jaR) (ja1) (.ref jb6) (jbc) (jbV) (ja3) (jbH) (jaq) (jac) (jbI) (jbl) (jbn) (jba) (jaa) (jbA) (jiK) (jbr) (jbo) (jbp) (jbk) (jbf) (jbq) (jbi) jbQ jbE jbm jdB jci jcj jdh jdN jdi jfT jbz jjV jkp jkP jfl jfM p1 p2 p3 hw) (cwV 3 hts gL_march_X10_march rfl rfl rfl (by decide +kernel) ⟨nbq rfl, nbq rfl⟩) ⟨qav, va_recv (q := (RX10, TX10, 19)) hK hPc (ci := 10) (q0 := 0) rfl rfl, qbl hPc hK hDc hNw hY hS hFc⟩ rfl rfl hl.1 rfl (lv_room (nbq rfl)) (qaa qo7 6 rfl) ⟨nbq rfl, nbq rfl⟩) hS (fun q _ h => hFc q h) hFc (fun q _ h => hFc q h) (fun en ce qx9 u t H1 locs ht hvm hpx hB hz1 hk1 hS hc9 hv9 hcl9 => ?_) (fun r7 u t H1 locs ht hvm hw hB hz1 hk1 hS => ?_)
  · obtain ⟨x1, f2, q3, q4, f5, f6⟩ := u
    obtain ⟨hw, hP1, hK1, hD1⟩ := hB
    rw [ht] at hP1
    obtain ⟨hP, hD⟩ := qad (wr := [(a4, .inl (cyJ, n4, .inr (.inl f4)))]) (w1 := (qaX4 a0 jaK jaR ja1 jb6 jbc jbV ja3 jbH jaT jh8 jaq jac jbI jbl jbn jba jaa jbA x1 jh8 jhy jiK q3 q4 jaT jbb jbr jaR jb6 jbb cyI jbQ jhy cyI f2 jaR jbs jbt jbo jbp jbk jcG jbf jbq jbE jbm jbi jdB jbs cyI jci jbt cyI jcj jb6 jbW jbL jcl jcc jdh jcc cyI f5 jcl cyI f6 jbW cyI jdN jbL cyI jdi jcG cyI jfT)) (wn := (qLV a0 jaK jaR ja1 jb6 jbc jbV ja3 jbH jaT jh8 jaq jac jbI jbl jbn jba jaa jbA x1 jh8 jhy jiK q3 q4 jaT jbb jbr jaR jb6 jbb cyI jbQ jhy cyI f2 jaR jbs jbt jbo jbp jbk jcG jbf jbq jbE jbm jbi jdB jbs cyI jci jbt cyI jcj jb6 jbW jbL jcl jcc jdh jcc cyI f5 jcl cyI f6 jbW cyI jdN jbL cyI jdi jcG cyI jfT a4 cyJ n4 f4)) hP hD [0, 1, 2, 3, 4, 5, 6, 7, 8, 9, 10, 11, 12, 13] [14] [1, 2, 3, 4, 5, 6, 7, 8, 9, 10, 11, 12, 13, 14, 0] hCc rfl (by decide +kernel) (by decide +kernel) (by decide +kernel) rfl hk1 hFc hP1 hD1
    generalize H1 = H at hP hS hc9 ⊢
    obtain ⟨rfl, hw⟩ := hw
    refine vx_catch (own := RL) (name := "java/lang/IllegalArgumentException") hown [] ⟨0, 12, 15, 13⟩ [] (hTb.trans rfl) (fun z hz => nomatch hz) (by decide) (by decide) (hts _ qazP) (va_Nw.use rfl (hY.2.2.2.1.2 _ (List.mem_of_getElem? (i := 0) rfl))) hc9 hv9 hcl9 ?_
    refine lv_astore (lv' := [(5, .ref qx9), (0, .ref a0), (1, .int p1), (2, .int p2), (3, .int p3), (4, .ref a4)]) hx hb (qaa qo7 10 rfl) hl (by decide) rfl (fun ls hl => ?_)
    refine lv_iconst (v := 1) hx hb (qaa qo7 11 rfl) (by decide) ?_
    exact (W.widen (k := 2) (n := 12) (nbq rfl) (nbq rfl) (W.iret (v := 1) hx hb hr (fun t ht hW => ⟨⟨1, (x1, f2, q3, q4, f5, f6, f4), rfl, hw, by rw [ht]; exact hP, va_K.moved hW.alike hK, hD⟩, hS.F ht⟩) hS.2.2 (qaa qo7 12 rfl)))
  obtain ⟨x1, f2, q3, q4, f5, f6⟩ := u
  obtain ⟨hP1, hK1, hD1⟩ := hB
  rw [ht] at hP1
  obtain ⟨hP, hD⟩ := va_join (wr := [(a4, .inl (cyJ, n4, .inr (.inl f4)))]) (w1 := (qaX4 a0 jaK jaR ja1 jb6 jbc jbV ja3 jbH jaT jh8 jaq jac jbI jbl jbn jba jaa jbA x1 jh8 jhy jiK q3 q4 jaT jbb jbr jaR jb6 jbb cyI jbQ jhy cyI f2 jaR jbs jbt jbo jbp jbk jcG jbf jbq jbE jbm jbi jdB jbs cyI jci jbt cyI jcj jb6 jbW jbL jcl jcc jdh jcc cyI f5 jcl cyI f6 jbW cyI jdN jbL cyI jdi jcG cyI jfT)) hP hD [0, 1, 2, 3, 4, 5, 6, 7, 8, 9, 10, 11, 12, 13] [14] rfl rfl (by decide) (by decide) hk1 hFc hP1 hD1
  have hP : va_P (dC, dI) vwCl (qLV a0 jaK jaR ja1 jb6 jbc jbV ja3 jbH jaT jh8 jaq jac jbI jbl jbn jba jaa jbA x1 jh8 jhy jiK q3 q4 jaT jbb jbr jaR jb6 jbb cyI jbQ jhy cyI f2 jaR jbs jbt jbo jbp jbk jcG jbf jbq jbE jbm jbi jdB jbs cyI jci jbt cyI jcj jb6 jbW jbL jcl jcc jdh jcc cyI f5 jcl cyI f6 jbW cyI jdN jbL cyI jdi jcG cyI jfT a4 cyJ n4 f4) H1 := hP.sub [1, 2, 3, 4, 5, 6, 7, 8, 9, 10, 11, 12, 13, 14, 0] rfl
  have hD : va_D A (qLV a0 jaK jaR ja1 jb6 jbc jbV ja3 jbH jaT jh8 jaq jac jbI jbl jbn jba jaa jbA x1 jh8 jhy jiK q3 q4 jaT jbb jbr jaR jb6 jbb cyI jbQ jhy cyI f2 jaR jbs jbt jbo jbp jbk jcG jbf jbq jbE jbm jbi jdB jbs cyI jci jbt cyI jcj jb6 jbW jbL jcl jcc jdh jcc cyI f5 jcl cyI f6 jbW cyI jdN jbL cyI jdi jcG cyI jfT a4 cyJ n4 f4) := hD.sub [1, 2, 3, 4, 5, 6, 7, 8, 9, 10, 11, 12, 13, 14, 0] (by decide) rfl
  generalize H1 = H at hP hS ⊢
  refine lv_i2l (v := r7.toInt64) hx hb (qaa qo7 7 rfl) rfl ?_
  refine lv_topl (fun x8 ex8 => ?_)
  have hw := hw x8 ex8
  obtain ⟨hi9, hw⟩ := hw
  refine va_last hx hb hK hP hD hS 14 2 rfl rfl hi9 (qaa qo7 8 rfl) (fun H locs hP hD hS => ?_)
  obtain ⟨f9, ef9⟩ : ∃ y : Nat → Int64, y = vp_updL f4 (0 : Int32).toNatClampNeg x8 := ⟨_, rfl⟩
  have hw := hw f9 ef9
  have hP : va_P (dC, dI) vwCl (qLV a0 jaK jaR ja1 jb6 jbc jbV ja3 jbH jaT jh8 jaq jac jbI jbl jbn jba jaa jbA x1 jh8 jhy jiK q3 q4 jaT jbb jbr jaR jb6 jbb cyI jbQ jhy cyI f2 jaR jbs jbt jbo jbp jbk jcG jbf jbq jbE jbm jbi jdB jbs cyI jci jbt cyI jcj jb6 jbW jbL jcl jcc jdh jcc cyI f5 jcl cyI f6 jbW cyI jdN jbL cyI jdi jcG cyI jfT a4 cyJ n4 f9) H := by rw [ef9]; exact hP
  have hD : va_D A (qLV a0 jaK jaR ja1 jb6 jbc jbV ja3 jbH jaT jh8 jaq jac jbI jbl jbn jba jaa jbA x1 jh8 jhy jiK q3 q4 jaT jbb jbr jaR jb6 jbb cyI jbQ jhy cyI f2 jaR jbs jbt jbo jbp jbk jcG jbf jbq jbE jbm jbi jdB jbs cyI jci jbt cyI jcj jb6 jbW jbL jcl jcc jdh jcc cyI f5 jcl cyI f6 jbW cyI jdN jbL cyI jdi jcG cyI jfT a4 cyJ n4 f9) := by rw [ef9]; exact hD
  refine lv_goto (tgt := 19) hx hb (qaa qo7 9 rfl) (by decide) ?_
  refine lv_iconst (v := 0) hx hb (qaa qo7 13 rfl) (by decide) ?_
  exact (W.widen (k := 2) (n := 12) (nbq rfl) (nbq rfl) (W.iret (v := 0) hx hb hr (fun t ht hW => ⟨⟨0, (x1, f2, q3, q4, f5, f6, f9), rfl, hw, by rw [ht]; exact hP, va_K.moved hW.alike hK, hD⟩, hS.F ht⟩) hS.2.2 (qaa qo7 14 rfl)))
theorem qaja : ∀ w ∈ u_ws RX1 TX1 4, w ∈ wsX1_leapable := uiM qqO qWg (by decide +kernel)
theorem qadO : (.fieldLink RX1 24 "MarchHares$Days" "down" "LMarchHares$Down;" : Cond) ∈ wsX1_leapable := qqO 322 (by decide +kernel)
theorem qJP : (.instanceMethod yX2_formsWithin : Cond) ∈ wsX1_leapable := qqO 3022 (by decide +kernel)
theorem q1J : (.initialized RX2 : Cond) ∈ wsX1_leapable := qqO 19 (by decide +kernel)
theorem qJJ : (.selects RX2 yX2_formsWithin yX2_formsWithin : Cond) ∈ wsX1_leapable := qqO 3023 (by decide +kernel)
set_option maxHeartbeats 4000000 in
set_option maxRecDepth 100000 in
theorem q7t (l : Launch) (dC : Nat → ClassId) (dI : Nat → Nat → Nat) (cyB cyI cyJ cyP : ClassId) (a0 jch jfB jk3 ji0 jjb ji1 jiJ jjJ jjK sz : Nat) (jcD jgk jgl jgm jgz jfV jgn jfW jiB : Value) (jdE : NI) (jlS jc6 jj9 : Int32) (jkK jkj jlh jli jlg jlp : NI) (p1 : Int32) {Q : Int32 → NI → NI → Prop} (hw : qAv jdE jlS jc6 jj9 jkK jkj jlh jli jlg jlp p1 Q) : Met l yX1_leapable wsX1_leapable ({ frames := 3, cells := 0, slots := 0, locals := 78 }) (va_Pc [.ref a0, .int p1] (cPc (dC, dI) (kT cyB cyI cyJ cyP) (qHF a0 jch jcD jfB jk3 jch cyI jdE jfB jjJ jjK jgk jgl jgm jgz jfV jgn jlS jc6 jfW jiB jk3 ji1 jiJ jjb ji0 jj9 ji0 cyI jlg jjb cyI jlp ji1 cyI jkK jiJ cyI jkj jjJ cyI jlh jjK cyI jli) sz)) (va_Qi (fun (r : Int32) (u : NI × NI) => Q r u.1 u.2) (cB (dC, dI) (kT cyB cyI cyJ cyP) (va_A (qHF a0 jch jcD jfB jk3 jch cyI jdE jfB jjJ jjK jgk jgl jgm jgz jfV jgn jlS jc6 jfW jiB jk3 ji1 jiJ jjb ji0 jj9 ji0 cyI jlg jjb cyI jlp ji1 cyI jkK jiJ cyI jkj jjJ cyI jlh jjK cyI jli) sz) (fun u : NI × NI => ((qHF a0 jch jcD jfB jk3 jch cyI jdE jfB jjJ jjK jgk jgl jgm jgz jfV jgn jlS jc6 jfW jiB jk3 ji1 jiJ jjb ji0 jj9 ji0 cyI u.1 jjb cyI u.2 ji1 cyI jkK jiJ cyI jkj jjJ cyI jlh jjK cyI jli) : va_W))) (va_A (qHF a0 jch jcD jfB jk3 jch cyI jdE jfB jjJ jjK jgk jgl jgm jgz jfV jgn jlS jc6 jfW jiB jk3 ji1 jiJ jjb ji0 jj9 ji0 cyI jlg jjb cyI jlp ji1 cyI jkK jiJ cyI jkj jjJ cyI jlh jjK cyI jli) sz)) 0 0 (va_A (qHF a0 jch jcD jfB jk3 jch cyI jdE jfB jjJ jjK jgk jgl jgm jgz jfV jgn jlS jc6 jfW jiB jk3 ji1 jiJ jjb ji0 jj9 ji0 cyI jlg jjb cyI jlp ji1 cyI jkK jiJ cyI jkj jjJ cyI jlh jjK cyI jli) sz) := by
  refine Met.ofW (cc := cX1_leapable) (maxL := 2) (ret := (some .int)) (by decide) rfl ?_
  intro p e s m args below meth c s₁ B hml hv
  obtain ⟨rfl, hsz, hP, hK, hD0, hNw⟩ := hv
  have hx := B.exec
  have hb := B.bytes
  have hr := B.returns
  have hts := atoms_spec (ws := wsX1_leapable) B.pre
  have hown : s.vm.findClass RX1 = some m.cls := findClass_of_methodNamed B.named
  have hlocks := B.notSynchronized
  subst hsz
  have hD := hD0.self (sz := s.heap.size)
  generalize hAe : va_A (qHF a0 jch jcD jfB jk3 jch cyI jdE jfB jjJ jjK jgk jgl jgm jgz jfV jgn jlS jc6 jfW jiB jk3 ji1 jiJ jjb ji0 jj9 ji0 cyI jlg jjb cyI jlp ji1 cyI jkK jiJ cyI jkj jjJ cyI jlh jjK cyI jli) s.heap.size = A at hD ⊢
  have hA : ∀ q : Nat, s.heap.size ≤ q → A q := fun q h => by rw [← hAe]; exact Or.inr h
  have hS : va_S A s.heap s.heap [] := va_S.rf
  have hP : va_P (dC, dI) vwCl (qHF a0 jch jcD jfB jk3 jch cyI jdE jfB jjJ jjK jgk jgl jgm jgz jfV jgn jlS jc6 jfW jiB jk3 ji1 jiJ jjb ji0 jj9 ji0 cyI jlg jjb cyI jlp ji1 cyI jkK jiJ cyI jkj jjJ cyI jlh jjK cyI jli) s.heap := hP
  have hl := lv_entry ([.ref a0, .int p1]) (n := 2) (nbq rfl)
  rw [lg_entry_eq]
  generalize (lg_sl ([.ref a0, .int p1]) ++ List.replicate (2 - (lg_sl ([.ref a0, .int p1])).length) Slot.unset).toArray = ls at hl ⊢
  have hl : lv_has ls 2 [(0, .ref a0), (1, .int p1)] := hl
  have C0 : cfx p s m _ meth c cX1_leapable (some .int) wsX1_leapable RX1 2 A (dC, dI) (kT cyB cyI cyJ cyP) := ⟨hx, hb, hr, hts, hown, hlocks, hml, hA, hK, hNw⟩
  clear hAe
  obtain ⟨H, hH⟩ : ∃ H, H = s.heap := ⟨_, rfl⟩
  rw [← hH] at hP ⊢
  have hS : va_S A s.heap H [] := by rw [hH]; exact va_S.rf
  have hS := hS
  refine lv_aload_n hx hb (qaa qfz 0 rfl) rfl (lv_at hl 0 rfl) ?_
  refine lv_iload_n hx hb (qaa qfz 1 rfl) rfl (lv_at hl 1 rfl) ?_
  obtain ⟨hCc, hPc, hDc, hFc⟩ := qac (ws' := (qGV a0 jch jcD jfB jk3 jch cyI jdE)) hP hD hS hA [0, 1] (by decide +kernel) rfl
  refine va_calli (va_runV (As := [.int p1]) (rest := []) ⟨hx, hb, hml, hown, hts⟩ (qia l dC dI cyB cyI cyJ cyP a0 jch H.size (jcD) (.ref jfB) (.ref jk3) jdE p1 hw) (cwV 1 hts gX1_leapable_X1_isCaught rfl rfl rfl (by decide +kernel) ⟨nbq rfl, nbq rfl⟩) ⟨qab, va_recv (q := (RX1, TX1, 4)) hK hPc (ci := 1) (q0 := 0) rfl rfl, qae hPc hK hDc hNw⟩ rfl rfl hl.1 rfl (lv_room (nbq rfl)) (qaa qfz 2 rfl) ⟨nbq rfl, nbq rfl⟩) hS (fun q _ h => hFc q h) hFc (fun r1 u t H1 locs ht hvm hw hB hz1 hk1 hS => ?_)
  obtain ⟨hP1, hK1, hD1⟩ := hB
  rw [ht] at hP1
  obtain ⟨hP, hD⟩ := qad (wr := (qaYN jfB jjJ jjK jgk jgl jgm jgz jfV jgn jlS jc6 jfW jiB jk3 ji1 jiJ jjb ji0 jj9 ji0 cyI jlg jjb cyI jlp ji1 cyI jkK jiJ cyI jkj jjJ cyI jlh jjK cyI jli)) (w1 := (qGV a0 jch jcD jfB jk3 jch cyI jdE)) (wn := (qHF a0 jch jcD jfB jk3 jch cyI jdE jfB jjJ jjK jgk jgl jgm jgz jfV jgn jlS jc6 jfW jiB jk3 ji1 jiJ jjb ji0 jj9 ji0 cyI jlg jjb cyI jlp ji1 cyI jkK jiJ cyI jkj jjJ cyI jlh jjK cyI jli)) hP hD [0, 1] [2, 3, 4, 5, 6, 7, 8, 9] [8, 9, 0, 1, 2, 3, 4, 5, 6, 7] hCc rfl (by decide +kernel) (by decide +kernel) (by decide +kernel) rfl hk1 hFc hP1 hD1
  generalize H1 = H at hP hS ⊢
  refine lv_if_eq (tgt := 10) hx hb (qaa qfz 3 rfl) (by decide) (fun c2 => ?_) (fun c2 => ?_)
  · have hw := hw.1 c2
    refine lv_aload_n hx hb (qaa qfz 6 rfl) rfl (lv_at hl 0 rfl) ?_
    refine va_get (D := (dC, dI)) (ci := 1) (v := .ref jfB) (C := RX1) (T := TX1) (N := 4) hx hb hts qaja hown hK hP 0 rfl rfl 2 (by decide) (hts _ qadO) (fun _ h9 => h9) rfl (qaa qfz 7 rfl) ?_
    refine lv_aload_n hx hb (qaa qfz 8 rfl) rfl (lv_at hl 0 rfl) ?_
    refine lv_iload_n hx hb (qaa qfz 9 rfl) rfl (lv_at hl 1 rfl) ?_
    obtain ⟨hCc, hPc, hDc, hFc⟩ := qac (ws' := (qGV a0 jch jcD jfB jk3 jch cyI jdE)) hP hD hS hA [0, 1] (by decide +kernel) rfl
    refine va_calli (va_runV (As := [.int p1]) (rest := [.ref jfB]) ⟨hx, hb, hml, hown, hts⟩ (qvw l dC dI cyB cyI cyJ cyP a0 jch H.size (jcD) (.ref jfB) (.ref jk3) jdE p1 hw) (cwV 1 hts gX1_leapable_X1_sits rfl rfl rfl (by decide +kernel) ⟨nbq rfl, nbq rfl⟩) ⟨qab, va_recv (q := (RX1, TX1, 4)) hK hPc (ci := 1) (q0 := 0) rfl rfl, qae hPc hK hDc hNw⟩ rfl rfl hl.1 rfl (lv_room (nbq rfl)) (qaa qfz 10 rfl) ⟨nbq rfl, nbq rfl⟩) hS (fun q _ h => hFc q h) hFc (fun r3 u t H1 locs ht hvm hw hB hz1 hk1 hS => ?_)
    obtain ⟨hP1, hK1, hD1⟩ := hB
    rw [ht] at hP1
    obtain ⟨hP, hD⟩ := qad (wr := (qaYN jfB jjJ jjK jgk jgl jgm jgz jfV jgn jlS jc6 jfW jiB jk3 ji1 jiJ jjb ji0 jj9 ji0 cyI jlg jjb cyI jlp ji1 cyI jkK jiJ cyI jkj jjJ cyI jlh jjK cyI jli)) (w1 := (qGV a0 jch jcD jfB jk3 jch cyI jdE)) (wn := (qHF a0 jch jcD jfB jk3 jch cyI jdE jfB jjJ jjK jgk jgl jgm jgz jfV jgn jlS jc6 jfW jiB jk3 ji1 jiJ jjb ji0 jj9 ji0 cyI jlg jjb cyI jlp ji1 cyI jkK jiJ cyI jkj jjJ cyI jlh jjK cyI jli)) hP hD [0, 1] [2, 3, 4, 5, 6, 7, 8, 9] [8, 9, 0, 1, 2, 3, 4, 5, 6, 7] hCc rfl (by decide +kernel) (by decide +kernel) (by decide +kernel) rfl hk1 hFc hP1 hD1
    generalize H1 = H at hP hS ⊢
    refine lv_aload_n hx hb (qaa qfz 11 rfl) rfl (lv_at hl 0 rfl) ?_
    refine lv_iload_n hx hb (qaa qfz 12 rfl) rfl (lv_at hl 1 rfl) ?_
    obtain ⟨hCc, hPc, hDc, hFc⟩ := qac (ws' := (qa8q a0 jch jcD jfB jk3 jch cyI jdE jfB jjJ jjK jgk jgl jgm jgz jfV jgn jlS jc6 jfW jiB jk3 ji1 jiJ jjb ji0 jj9 ji0 cyI jlg jjb cyI jlp ji1 cyI jkK jiJ cyI jkj)) hP hD hS hA [0, 1, 2, 3, 4, 5, 6, 7] (by decide +kernel) rfl
    refine va_calli (va_runV (As := [.int p1]) (rest := [.int r3, .ref jfB]) ⟨hx, hb, hml, hown, hts⟩ (qXY l dC dI cyB cyI cyJ cyP a0 jch jfB jk3 ji0 jjb ji1 jiJ H.size (jcD) (.ref jjJ) (.ref jjK) (jgk) (jgl) (jgm) (jgz) (jfV) (jgn) (.int jlS) (jfW) (jiB) jdE jc6 jj9 jkK jkj jlg jlp p1 hw) (cwV 1 hts gX1_leapable_X1_reach rfl rfl rfl (by decide +kernel) ⟨nbq rfl, nbq rfl⟩) ⟨qab, va_recv (q := (RX1, TX1, 4)) hK hPc (ci := 1) (q0 := 0) rfl rfl, qae hPc hK hDc hNw⟩ rfl rfl hl.1 rfl (lv_room (nbq rfl)) (qaa qfz 13 rfl) ⟨nbq rfl, nbq rfl⟩) hS (fun q _ h => hFc q h) hFc (fun r6 u t H1 locs ht hvm hw hB hz1 hk1 hS => ?_)
    obtain ⟨f4, f5⟩ := u
    obtain ⟨hP1, hK1, hD1⟩ := hB
    rw [ht] at hP1
    obtain ⟨hP, hD⟩ := qad (wr := (qaWt jjJ cyI jlh jjK cyI jli)) (w1 := (qa8q a0 jch jcD jfB jk3 jch cyI jdE jfB jjJ jjK jgk jgl jgm jgz jfV jgn jlS jc6 jfW jiB jk3 ji1 jiJ jjb ji0 jj9 ji0 cyI f4 jjb cyI f5 ji1 cyI jkK jiJ cyI jkj)) (wn := (qHF a0 jch jcD jfB jk3 jch cyI jdE jfB jjJ jjK jgk jgl jgm jgz jfV jgn jlS jc6 jfW jiB jk3 ji1 jiJ jjb ji0 jj9 ji0 cyI f4 jjb cyI f5 ji1 cyI jkK jiJ cyI jkj jjJ cyI jlh jjK cyI jli)) hP hD [0, 1, 2, 3, 4, 5, 6, 7] [8, 9] [2, 3, 4, 5, 6, 7, 8, 9, 0, 1] hCc rfl (by decide +kernel) (by decide +kernel) (by decide +kernel) rfl hk1 hFc hP1 hD1
    generalize H1 = H at hP hS ⊢
    obtain ⟨hCc, hPc, hDc, hFc⟩ := qac (ws' := (qa4q jfB jjJ jjK jgk jgl jgm jgz jfV jgn jlS jc6 jfW jiB jjJ cyI jlh jjK cyI jli)) hP hD hS hA [2, 8, 9] (by decide +kernel) rfl
    refine va_calli (va_runVN (As := [.int r3, .int r6]) (rest := []) ⟨hx, hb, hml, hown, hts⟩ (qJN l dC dI cyB cyI cyJ cyP jfB jjJ jjK H.size (jgk) (jgl) (jgm) (jgz) (jfV) (jgn) (.int jc6) (jfW) (jiB) jlS jlh jli r3 r6 hw) ⟨(va_cnB 2 hts gX1_leapable_X2_formsWithin_n108 rfl rfl rfl (nw_8 hNw) (hts _ q1J) (by decide +kernel) ⟨nbq rfl, nbq rfl⟩), (hts _ qJP), (hts _ qJJ)⟩ ⟨qab, va_recv (q := (RX2, TX2, 12)) hK hPc (ci := 2) (q0 := 0) rfl rfl, qae hPc hK hDc hNw⟩ rfl rfl hl.1 rfl (lv_room (nbq rfl)) (qaa qfz 14 rfl) ⟨nbq rfl, nbq rfl⟩) hS (fun q _ h => hFc q h) hFc (fun r7 u t H1 locs ht hvm hw hB hz1 hk1 hS => ?_)
    obtain ⟨hP1, hK1, hD1⟩ := hB
    rw [ht] at hP1
    obtain ⟨hP, hD⟩ := qad (wr := [(a0, .inr (1, [.ref jch, jcD, .ref jfB, .ref jk3])), (jch, .inl (cyI, 64, .inl jdE)), (jk3, .inr (4, [.ref ji1, .ref jiJ, .ref jjb, .ref ji0, .int jj9])), (ji0, .inl (cyI, 8, .inl f4)), (jjb, .inl (cyI, 150, .inl f5)), (ji1, .inl (cyI, 150, .inl jkK)), (jiJ, .inl (cyI, 150, .inl jkj))]) (w1 := (qa4q jfB jjJ jjK jgk jgl jgm jgz jfV jgn jlS jc6 jfW jiB jjJ cyI jlh jjK cyI jli)) (wn := (qHF a0 jch jcD jfB jk3 jch cyI jdE jfB jjJ jjK jgk jgl jgm jgz jfV jgn jlS jc6 jfW jiB jk3 ji1 jiJ jjb ji0 jj9 ji0 cyI f4 jjb cyI f5 ji1 cyI jkK jiJ cyI jkj jjJ cyI jlh jjK cyI jli)) hP hD [2, 8, 9] [0, 1, 3, 4, 5, 6, 7] [0, 1, 7, 2, 3, 4, 5, 6, 8, 9] hCc rfl (by decide +kernel) (by decide +kernel) (by decide +kernel) rfl hk1 hFc hP1 hD1
    generalize H1 = H at hP hS ⊢
    refine lv_iconst (v := 1) hx hb (qaa qfz 15 rfl) (by decide) ?_
    refine lv_aload_n hx hb (qaa qrm 0 rfl) rfl (lv_at hl 0 rfl) ?_
    refine lv_iload_n hx hb (qaa qrm 1 rfl) rfl (lv_at hl 1 rfl) ?_
    obtain ⟨hCc, hPc, hDc, hFc⟩ := qac (ws' := (qGV a0 jch jcD jfB jk3 jch cyI jdE)) hP hD hS hA [0, 1] (by decide +kernel) rfl
    refine va_calli (va_runV (As := [.int p1]) (rest := [.int 1, .int r7]) ⟨hx, hb, hml, hown, hts⟩ (qvw l dC dI cyB cyI cyJ cyP a0 jch H.size (jcD) (.ref jfB) (.ref jk3) jdE p1 hw) (cwV 1 hts gX1_leapable_X1_sits rfl rfl rfl (by decide +kernel) ⟨nbq rfl, nbq rfl⟩) ⟨qab, va_recv (q := (RX1, TX1, 4)) hK hPc (ci := 1) (q0 := 0) rfl rfl, qae hPc hK hDc hNw⟩ rfl rfl hl.1 rfl (lv_room (nbq rfl)) (qaa qrm 2 rfl) ⟨nbq rfl, nbq rfl⟩) hS (fun q _ h => hFc q h) hFc (fun r8 u t H1 locs ht hvm hw hB hz1 hk1 hS => ?_)
    obtain ⟨hP1, hK1, hD1⟩ := hB
    rw [ht] at hP1
    obtain ⟨hP, hD⟩ := qad (wr := (qaYN jfB jjJ jjK jgk jgl jgm jgz jfV jgn jlS jc6 jfW jiB jk3 ji1 jiJ jjb ji0 jj9 ji0 cyI f4 jjb cyI f5 ji1 cyI jkK jiJ cyI jkj jjJ cyI jlh jjK cyI jli)) (w1 := (qGV a0 jch jcD jfB jk3 jch cyI jdE)) (wn := (qHF a0 jch jcD jfB jk3 jch cyI jdE jfB jjJ jjK jgk jgl jgm jgz jfV jgn jlS jc6 jfW jiB jk3 ji1 jiJ jjb ji0 jj9 ji0 cyI f4 jjb cyI f5 ji1 cyI jkK jiJ cyI jkj jjJ cyI jlh jjK cyI jli)) hP hD [0, 1] [2, 3, 4, 5, 6, 7, 8, 9] [8, 9, 0, 1, 2, 3, 4, 5, 6, 7] hCc rfl (by decide +kernel) (by decide +kernel) (by decide +kernel) rfl hk1 hFc hP1 hD1
    generalize H1 = H at hP hS ⊢
    refine lv_ishl hx hb (qaa qrm 3 rfl) ?_
    refine lv_iconst (v := (-1)) hx hb (qaa qrm 4 rfl) (by decide) ?_
    refine lv_ixor hx hb (qaa qrm 5 rfl) ?_
    refine lv_iand hx hb (qaa qrm 6 rfl) ?_
    exact ((W.iret (v := (r7 &&& ((1 <<< (r8 &&& 31)) ^^^ (-1)))) hx hb hr (fun t ht hW => ⟨⟨(r7 &&& ((1 <<< (r8 &&& 31)) ^^^ (-1))), (f4, f5), rfl, hw, by rw [ht]; exact hP, va_K.moved hW.alike hK, hD⟩, hS.F ht⟩) hS.2.2 (qaa qrm 7 rfl)))
  · have hw := hw.2 c2
    refine lv_iconst (v := 0) hx hb (qaa qfz 4 rfl) (by decide) ?_
    exact ((W.iret (v := 0) hx hb hr (fun t ht hW => ⟨⟨0, (jlg, jlp), rfl, hw, by rw [ht]; exact hP, va_K.moved hW.alike hK, hD⟩, hS.F ht⟩) hS.2.2 (qaa qfz 5 rfl)))
theorem qatk : ∀ w ∈ u_ws RX10 TX10 19, w ∈ wsX10_range := uiM qJW qyN (by decide +kernel)
theorem qasn : (.fieldLink RX10 58 "MarchHares" "now" "LMarchHares$Days;" : Cond) ∈ wsX10_range := qJW 79 (by decide +kernel)
set_option maxHeartbeats 4000000 in
set_option maxRecDepth 100000 in
theorem qaV0 (l : Launch) (dC : Nat → ClassId) (dI : Nat → Nat → Nat) (cyB cyI cyJ cyP : ClassId) (a0 jaR jaT jbb jb6 jcc jcl jbW jbL jbs jbt sz : Nat) (jaK ja1 jcp jbc jbV ja3 jbH jbO jaq jac jbI jbl jbn jba jaa jdD jbo jbp jbk jbj jbf jbq jbi jcd jbr : Value) (jbE jbm : Int32) (jbQ : NI) (jdh : Int32) (jdN jdi jci jcj : NI) (jdu : Int32) (jfl jfM : NI) (p1 : Int32) {E : String → Int32 → NI → NI → Prop} {Q : Int32 → Int32 → NI → NI → Prop} (hw : q3f jbE jbm jbQ jdh jdN jdi jci jcj jdu jfl jfM p1 E Q) : vx_Met l yX10_range wsX10_range ({ frames := 7, cells := 1, slots := 6, locals := 141 }) (va_Pc [.ref a0, .int p1] (cPx l (dC, dI) (kT cyB cyI cyJ cyP) (qJx a0 jaK jaR ja1 jcp jbc jbV ja3 jbH jaT jbO jaq jac jbI jbl jbn jba jaa jdu jdD jaR jbs jbt jbo jbp jbk jbj jbf jbq jbE jbm jbi jcd jaT jbb jbr jaR jb6 jbb cyI jbQ jb6 jbW jbL jcl jcc jdh jcc cyI jfl jcl cyI jfM jbW cyI jdN jbL cyI jdi jbs cyI jci jbt cyI jcj) sz)) (va_Qi (fun (r : Int32) (u : Int32 × NI × NI) => Q r u.1 u.2.1 u.2.2) (cB (dC, dI) (kT cyB cyI cyJ cyP) (va_A (qJx a0 jaK jaR ja1 jcp jbc jbV ja3 jbH jaT jbO jaq jac jbI jbl jbn jba jaa jdu jdD jaR jbs jbt jbo jbp jbk jbj jbf jbq jbE jbm jbi jcd jaT jbb jbr jaR jb6 jbb cyI jbQ jb6 jbW jbL jcl jcc jdh jcc cyI jfl jcl cyI jfM jbW cyI jdN jbL cyI jdi jbs cyI jci jbt cyI jcj) sz) (fun u : Int32 × NI × NI => ((qJx a0 jaK jaR ja1 jcp jbc jbV ja3 jbH jaT jbO jaq jac jbI jbl jbn jba jaa u.1 jdD jaR jbs jbt jbo jbp jbk jbj jbf jbq jbE jbm jbi jcd jaT jbb jbr jaR jb6 jbb cyI jbQ jb6 jbW jbL jcl jcc jdh jcc cyI u.2.1 jcl cyI u.2.2 jbW cyI jdN jbL cyI jdi jbs cyI jci jbt cyI jcj) : va_W))) (va_A (qJx a0 jaK jaR ja1 jcp jbc jbV ja3 jbH jaT jbO jaq jac jbI jbl jbn jba jaa jdu jdD jaR jbs jbt jbo jbp jbk jbj jbf jbq jbE jbm jbi jcd jaT jbb jbr jaR jb6 jbb cyI jbQ jb6 jbW jbL jcl jcc jdh jcc cyI jfl jcl cyI jfM jbW cyI jdN jbL cyI jdi jbs cyI jci jbt cyI jcj) sz)) (vx_X (fun _ => True) (fun (en : String) (u : Int32 × NI × NI) (t : State) => E en u.1 u.2.1 u.2.2 ∧ cB (dC, dI) (kT cyB cyI cyJ cyP) (va_A (qJx a0 jaK jaR ja1 jcp jbc jbV ja3 jbH jaT jbO jaq jac jbI jbl jbn jba jaa jdu jdD jaR jbs jbt jbo jbp jbk jbj jbf jbq jbE jbm jbi jcd jaT jbb jbr jaR jb6 jbb cyI jbQ jb6 jbW jbL jcl jcc jdh jcc cyI jfl jcl cyI jfM jbW cyI jdN jbL cyI jdi jbs cyI jci jbt cyI jcj) sz) (fun u : Int32 × NI × NI => ((qJx a0 jaK jaR ja1 jcp jbc jbV ja3 jbH jaT jbO jaq jac jbI jbl jbn jba jaa u.1 jdD jaR jbs jbt jbo jbp jbk jbj jbf jbq jbE jbm jbi jcd jaT jbb jbr jaR jb6 jbb cyI jbQ jb6 jbW jbL jcl jcc jdh jcc cyI u.2.1 jcl cyI u.2.2 jbW cyI jdN jbL cyI jdi jbs cyI jci jbt cyI jcj) : va_W)) u t) (va_A (qJx a0 jaK jaR ja1 jcp jbc jbV ja3 jbH jaT jbO jaq jac jbI jbl jbn jba jaa jdu jdD jaR jbs jbt jbo jbp jbk jbj jbf jbq jbE jbm jbi jcd jaT jbb jbr jaR jb6 jbb cyI jbQ jb6 jbW jbL jcl jcc jdh jcc cyI jfl jcl cyI jfM jbW cyI jdN jbL cyI jdi jbs cyI jci jbt cyI jcj) sz)) 1 6 (va_A (qJx a0 jaK jaR ja1 jcp jbc jbV ja3 jbH jaT jbO jaq jac jbI jbl jbn jba jaa jdu jdD jaR jbs jbt jbo jbp jbk jbj jbf jbq jbE jbm jbi jcd jaT jbb jbr jaR jb6 jbb cyI jbQ jb6 jbW jbL jcl jcc jdh jcc cyI jfl jcl cyI jfM jbW cyI jdN jbL cyI jdi jbs cyI jci jbt cyI jcj) sz) := by
  refine vx_ofW (cc := cX10_range) (maxL := 2) (ret := (some .int)) (by decide) rfl ?_
  intro p e s m args below meth c s₁ B hml hnt hv
  obtain ⟨rfl, hsz, hP, hK, hD0, hNw, hXl, hXu, hXn, hXt⟩ := hv
  have hx := B.exec
  have hb := B.bytes
  have hr := B.returns
  have hts := atoms_spec (ws := wsX10_range) B.pre
  have hown : s.vm.findClass RX10 = some m.cls := findClass_of_methodNamed B.named
  have hlocks := B.notSynchronized
  subst hsz
  have hD := hD0.self (sz := s.heap.size)
  generalize hAe : va_A (qJx a0 jaK jaR ja1 jcp jbc jbV ja3 jbH jaT jbO jaq jac jbI jbl jbn jba jaa jdu jdD jaR jbs jbt jbo jbp jbk jbj jbf jbq jbE jbm jbi jcd jaT jbb jbr jaR jb6 jbb cyI jbQ jb6 jbW jbL jcl jcc jdh jcc cyI jfl jcl cyI jfM jbW cyI jdN jbL cyI jdi jbs cyI jci jbt cyI jcj) s.heap.size = A at hD hXu hXn ⊢
  have hA : ∀ q : Nat, s.heap.size ≤ q → A q := fun q h => by rw [← hAe]; exact Or.inr h
  have hS : va_S A s.heap s.heap [] := va_S.rf
  have hP : va_P (dC, dI) vwCl (qJx a0 jaK jaR ja1 jcp jbc jbV ja3 jbH jaT jbO jaq jac jbI jbl jbn jba jaa jdu jdD jaR jbs jbt jbo jbp jbk jbj jbf jbq jbE jbm jbi jcd jaT jbb jbr jaR jb6 jbb cyI jbQ jb6 jbW jbL jcl jcc jdh jcc cyI jfl jcl cyI jfM jbW cyI jdN jbL cyI jdi jbs cyI jci jbt cyI jcj) s.heap := hP
  have hl := lv_entry ([.ref a0, .int p1]) (n := 2) (nbq rfl)
  rw [lg_entry_eq]
  generalize (lg_sl ([.ref a0, .int p1]) ++ List.replicate (2 - (lg_sl ([.ref a0, .int p1])).length) Slot.unset).toArray = ls at hl ⊢
  have hl : lv_has ls 2 [(0, .ref a0), (1, .int p1)] := hl
  have hY : cfY l s A := ⟨hXl, hXu, hXn, hXt⟩
  have hXs : cfX l s c A := ⟨hnt, hY⟩
  have C0 : cfx p s m _ meth c cX10_range (some .int) wsX10_range RX10 2 A (dC, dI) (kT cyB cyI cyJ cyP) ∧ cfX l s c A := ⟨⟨hx, hb, hr, hts, hown, hlocks, hml, hA, hK, hNw⟩, hXs⟩
  clear hAe
  obtain ⟨H, hH⟩ : ∃ H, H = s.heap := ⟨_, rfl⟩
  rw [← hH] at hP ⊢
  have hS : va_S A s.heap H [] := by rw [hH]; exact va_S.rf
  have hS := hS
  refine lv_aload_n hx hb (qaa qvn 0 rfl) rfl (lv_at hl 0 rfl) ?_
  refine lv_iload_n hx hb (qaa qvn 1 rfl) rfl (lv_at hl 1 rfl) ?_
  obtain ⟨hCc, hPc, hDc, hFc⟩ := qac (ws' := (qaY7 a0 jaK jaR ja1 jcp jbc jbV ja3 jbH jaT jbO jaq jac jbI jbl jbn jba jaa jdu jdD jaR jbs jbt jbo jbp jbk jbj jbf jbq jbE jbm jbi jcd)) hP hD hS hA [0, 1] (by decide +kernel) rfl
  refine vx_callv (vx_runV (As := [.int p1]) (rest := []) ⟨hx, hb, hml, hown, hts⟩ (qqu l dC dI cyB cyI cyJ cyP a0 jaR H.size (jaK) (ja1) (jcp) (jbc) (jbV) (ja3) (jbH) (.ref jaT) (jbO) (jaq) (jac) (jbI) (jbl) (jbn) (jba) (jaa) (jdD) (.ref jbs) (.ref jbt) (jbo) (jbp) (jbk) (jbj) (jbf) (jbq) (.int jbE) (jbi) (jcd) jbm jdu p1 hw) (cwV 1 hts gX10_range_X10_needHare rfl rfl rfl (by decide +kernel) ⟨nbq rfl, nbq rfl⟩) ⟨qav, va_recv (q := (RX10, TX10, 19)) hK hPc (ci := 10) (q0 := 0) rfl rfl, qbl hPc hK hDc hNw hY hS hFc⟩ rfl rfl hl.1 rfl (lv_room (nbq rfl)) (qaa qvn 2 rfl) ⟨nbq rfl, nbq rfl⟩) hS (fun q _ h => hFc q h) hFc (fun q _ h => hFc q h) (fun en ce q9 u t H1 locs ht hvm hpx hB hz1 hk1 hS hc9 hv9 hcl9 => ?_) (fun u t H1 locs ht hvm hw hB hz1 hk1 hS => ?_)
  · obtain ⟨x1, rfl⟩ : ∃ z, z = u := ⟨_, rfl⟩
    obtain ⟨hw, hP1, hK1, hD1⟩ := hB
    rw [ht] at hP1
    obtain ⟨hP, hD⟩ := qad (wr := (qa5X jaT jbb jbr jaR jb6 jbb cyI jbQ jb6 jbW jbL jcl jcc jdh jcc cyI jfl jcl cyI jfM jbW cyI jdN jbL cyI jdi jbs cyI jci jbt cyI jcj)) (w1 := (qaY7 a0 jaK jaR ja1 jcp jbc jbV ja3 jbH jaT jbO jaq jac jbI jbl jbn jba jaa x1 jdD jaR jbs jbt jbo jbp jbk jbj jbf jbq jbE jbm jbi jcd)) (wn := (qJx a0 jaK jaR ja1 jcp jbc jbV ja3 jbH jaT jbO jaq jac jbI jbl jbn jba jaa x1 jdD jaR jbs jbt jbo jbp jbk jbj jbf jbq jbE jbm jbi jcd jaT jbb jbr jaR jb6 jbb cyI jbQ jb6 jbW jbL jcl jcc jdh jcc cyI jfl jcl cyI jfM jbW cyI jdN jbL cyI jdi jbs cyI jci jbt cyI jcj)) hP hD [0, 1] [2, 3, 4, 5, 6, 7, 8, 9, 10] [9, 10, 0, 1, 2, 3, 4, 5, 6, 7, 8] hCc rfl (by decide +kernel) (by decide +kernel) (by decide +kernel) rfl hk1 hFc hP1 hD1
    generalize H1 = H at hP hS hc9 ⊢
    exact vx_out (fun x hx9 => (hXs.1 x hx9).elim) hlocks hc9 hv9 hcl9 (fun t2 ht2 hal2 => ⟨(x1, jfl, jfM), trivial, ⟨hw, by rw [ht2]; exact hP, va_K.moved hal2 hK, hD⟩, hS.F ht2⟩) hS.2.2 (nbq rfl) (nbq rfl)
  obtain ⟨x1, rfl⟩ : ∃ z, z = u := ⟨_, rfl⟩
  obtain ⟨hP1, hK1, hD1⟩ := hB
  rw [ht] at hP1
  obtain ⟨hP, hD⟩ := qad (wr := (qa5X jaT jbb jbr jaR jb6 jbb cyI jbQ jb6 jbW jbL jcl jcc jdh jcc cyI jfl jcl cyI jfM jbW cyI jdN jbL cyI jdi jbs cyI jci jbt cyI jcj)) (w1 := (qaY7 a0 jaK jaR ja1 jcp jbc jbV ja3 jbH jaT jbO jaq jac jbI jbl jbn jba jaa x1 jdD jaR jbs jbt jbo jbp jbk jbj jbf jbq jbE jbm jbi jcd)) (wn := (qJx a0 jaK jaR ja1 jcp jbc jbV ja3 jbH jaT jbO jaq jac jbI jbl jbn jba jaa x1 jdD jaR jbs jbt jbo jbp jbk jbj jbf jbq jbE jbm jbi jcd jaT jbb jbr jaR jb6 jbb cyI jbQ jb6 jbW jbL jcl jcc jdh jcc cyI jfl jcl cyI jfM jbW cyI jdN jbL cyI jdi jbs cyI jci jbt cyI jcj)) hP hD [0, 1] [2, 3, 4, 5, 6, 7, 8, 9, 10] [9, 10, 0, 1, 2, 3, 4, 5, 6, 7, 8] hCc rfl (by decide +kernel) (by decide +kernel) (by decide +kernel) rfl hk1 hFc hP1 hD1
  generalize H1 = H at hP hS ⊢
  refine lv_aload_n hx hb (qaa qvn 3 rfl) rfl (lv_at hl 0 rfl) ?_
  refine va_get (D := (dC, dI)) (ci := 10) (v := .ref jaT) (C := RX10) (T := TX10) (N := 19) hx hb hts qatk hown hK hP 0 rfl rfl 8 (by decide) (hts _ qasn) (fun _ h9 => h9) rfl (qaa qvn 4 rfl) ?_
  refine lv_iload_n hx hb (qaa qvn 5 rfl) rfl (lv_at hl 1 rfl) ?_
  obtain ⟨hCc, hPc, hDc, hFc⟩ := qac (ws' := (qHF jaT jbb jbr jaR jb6 jbb cyI jbQ jaR jbs jbt jbo jbp jbk jbj jbf jbq jbE jbm jbi jcd jb6 jbW jbL jcl jcc jdh jcc cyI jfl jcl cyI jfM jbW cyI jdN jbL cyI jdi jbs cyI jci jbt cyI jcj)) hP hD hS hA [2, 3, 1, 4, 5, 6, 7, 8, 9, 10] (by decide +kernel) rfl
  refine va_calli (va_runV (As := [.int p1]) (rest := []) ⟨hx, hb, hml, hown, hts⟩ (q7t l dC dI cyB cyI cyJ cyP jaT jbb jaR jb6 jcc jcl jbW jbL jbs jbt H.size (jbr) (jbo) (jbp) (jbk) (jbj) (jbf) (jbq) (jbi) (jcd) jbQ jbE jbm jdh jdN jdi jci jcj jfl jfM p1 hw) (cwV 1 hts gX10_range_X1_leapable rfl rfl rfl (by decide +kernel) ⟨nbq rfl, nbq rfl⟩) ⟨qab, va_recv (q := (RX1, TX1, 4)) hK hPc (ci := 1) (q0 := 0) rfl rfl, qae hPc hK hDc hNw⟩ rfl rfl hl.1 rfl (lv_room (nbq rfl)) (qaa qvn 6 rfl) ⟨nbq rfl, nbq rfl⟩) hS (fun q _ h => hFc q h) hFc (fun r4 u t H1 locs ht hvm hw hB hz1 hk1 hS => ?_)
  obtain ⟨f2, f3⟩ := u
  obtain ⟨hP1, hK1, hD1⟩ := hB
  rw [ht] at hP1
  obtain ⟨hP, hD⟩ := qad (wr := [(a0, .inr (10, [jaK, .ref jaR, ja1, jcp, jbc, jbV, ja3, jbH, .ref jaT, jbO, jaq, jac, jbI, jbl, jbn, jba, jaa, .int x1, jdD]))]) (w1 := (qHF jaT jbb jbr jaR jb6 jbb cyI jbQ jaR jbs jbt jbo jbp jbk jbj jbf jbq jbE jbm jbi jcd jb6 jbW jbL jcl jcc jdh jcc cyI f2 jcl cyI f3 jbW cyI jdN jbL cyI jdi jbs cyI jci jbt cyI jcj)) (wn := (qJx a0 jaK jaR ja1 jcp jbc jbV ja3 jbH jaT jbO jaq jac jbI jbl jbn jba jaa x1 jdD jaR jbs jbt jbo jbp jbk jbj jbf jbq jbE jbm jbi jcd jaT jbb jbr jaR jb6 jbb cyI jbQ jb6 jbW jbL jcl jcc jdh jcc cyI f2 jcl cyI f3 jbW cyI jdN jbL cyI jdi jbs cyI jci jbt cyI jcj)) hP hD [2, 3, 1, 4, 5, 6, 7, 8, 9, 10] [0] [0, 3, 1, 2, 4, 5, 6, 7, 8, 9, 10] hCc rfl (by decide +kernel) (by decide +kernel) (by decide +kernel) rfl hk1 hFc hP1 hD1
  generalize H1 = H at hP hS ⊢
  exact vx_ret (W.widen (k := 1) (n := 6) (nbq rfl) (nbq rfl) (W.iret (v := r4) hx hb hr (fun t ht hW => ⟨⟨r4, (x1, f2, f3), rfl, hw, by rw [ht]; exact hP, va_K.moved hW.alike hK, hD⟩, hS.F ht⟩) hS.2.2 (qaa qvn 7 rfl)))
theorem qazy : (.classLink RL 31 "java/util/NoSuchElementException" : Cond) ∈ wsL_range := qafv 2639 (by decide +kernel)
theorem qaRi : (.codeWith yL_range cL_range 4 (some .int) [(0, 9, 12, 31)] : Cond) ∈ wsL_range := qafv 3976 (by decide +kernel)
set_option maxHeartbeats 4000000 in
set_option maxRecDepth 100000 in
theorem qa2E (l : Launch) (dC : Nat → ClassId) (dI : Nat → Nat → Nat) (cyB cyI cyJ cyP : ClassId) (a0 a2 jaR jaT jbb jb6 jcc jcl jbW jbL jbs jbt sz : Nat) (jaK ja1 jbc jbV ja3 jbH jbO jaq jac jbI jbl jbn jba jaa jdD jbo jbp jbk jbj jbf jbq jbi jcd jbr : Value) (n2 : Nat) (jbE jbm : Int32) (jbQ : NI) (jdh : Int32) (jdN jdi jci jcj : NI) (jdu : Int32) (jfl jfM : NI) (f2 : Nat → Int64) (p1 : Int32) {Q : Int32 → Int32 → NI → NI → (Nat → Int64) → Prop} (hw : qajk n2 jbE jbm jbQ jdh jdN jdi jci jcj jdu jfl jfM f2 p1 Q) : Met l yL_range wsL_range ({ frames := 8, cells := 1, slots := 6, locals := 162 }) (va_Pc [.ref a0, .int p1, .ref a2] (cPx l (dC, dI) (kT cyB cyI cyJ cyP) (qME a0 jaK jaR ja1 jb6 jbc jbV ja3 jbH jaT jbO jaq jac jbI jbl jbn jba jaa jdu jdD jaR jbs jbt jbo jbp jbk jbj jbf jbq jbE jbm jbi jcd jaT jbb jbr jaR jb6 jbb cyI jbQ jb6 jbW jbL jcl jcc jdh jcc cyI jfl jcl cyI jfM jbW cyI jdN jbL cyI jdi jbs cyI jci jbt cyI jcj a2 cyJ n2 f2) sz)) (va_Qi (fun (r : Int32) (u : Int32 × NI × NI × (Nat → Int64)) => Q r u.1 u.2.1 u.2.2.1 u.2.2.2) (cB (dC, dI) (kT cyB cyI cyJ cyP) (va_A (qME a0 jaK jaR ja1 jb6 jbc jbV ja3 jbH jaT jbO jaq jac jbI jbl jbn jba jaa jdu jdD jaR jbs jbt jbo jbp jbk jbj jbf jbq jbE jbm jbi jcd jaT jbb jbr jaR jb6 jbb cyI jbQ jb6 jbW jbL jcl jcc jdh jcc cyI jfl jcl cyI jfM jbW cyI jdN jbL cyI jdi jbs cyI jci jbt cyI jcj a2 cyJ n2 f2) sz) (fun u : Int32 × NI × NI × (Nat → Int64) => ((qME a0 jaK jaR ja1 jb6 jbc jbV ja3 jbH jaT jbO jaq jac jbI jbl jbn jba jaa u.1 jdD jaR jbs jbt jbo jbp jbk jbj jbf jbq jbE jbm jbi jcd jaT jbb jbr jaR jb6 jbb cyI jbQ jb6 jbW jbL jcl jcc jdh jcc cyI u.2.1 jcl cyI u.2.2.1 jbW cyI jdN jbL cyI jdi jbs cyI jci jbt cyI jcj a2 cyJ n2 u.2.2.2) : va_W))) (va_A (qME a0 jaK jaR ja1 jb6 jbc jbV ja3 jbH jaT jbO jaq jac jbI jbl jbn jba jaa jdu jdD jaR jbs jbt jbo jbp jbk jbj jbf jbq jbE jbm jbi jcd jaT jbb jbr jaR jb6 jbb cyI jbQ jb6 jbW jbL jcl jcc jdh jcc cyI jfl jcl cyI jfM jbW cyI jdN jbL cyI jdi jbs cyI jci jbt cyI jcj a2 cyJ n2 f2) sz)) 1 6 (va_A (qME a0 jaK jaR ja1 jb6 jbc jbV ja3 jbH jaT jbO jaq jac jbI jbl jbn jba jaa jdu jdD jaR jbs jbt jbo jbp jbk jbj jbf jbq jbE jbm jbi jcd jaT jbb jbr jaR jb6 jbb cyI jbQ jb6 jbW jbL jcl jcc jdh jcc cyI jfl jcl cyI jfM jbW cyI jdN jbL cyI jdi jbs cyI jci jbt cyI jcj a2 cyJ n2 f2) sz) := by
  refine va_MetW (cc := cL_range) (maxL := 4) (ret := (some .int)) (by decide) rfl ?_
  intro p e s m args below meth c s₁ B hml hv
  obtain ⟨rfl, hsz, hP, hK, hD0, hNw, hXl, hXu, hXn, hXt⟩ := hv
  have hx := B.exec
  have hb := B.bytes
  have hr := B.returns
  have hts := atoms_spec (ws := wsL_range) B.pre
  have hown : s.vm.findClass RL = some m.cls := findClass_of_methodNamed B.named
  have hlocks := B.notSynchronized
  subst hsz
  have hD := hD0.self (sz := s.heap.size)
  generalize hAe : va_A (qME a0 jaK jaR ja1 jb6 jbc jbV ja3 jbH jaT jbO jaq jac jbI jbl jbn jba jaa jdu jdD jaR jbs jbt jbo jbp jbk jbj jbf jbq jbE jbm jbi jcd jaT jbb jbr jaR jb6 jbb cyI jbQ jb6 jbW jbL jcl jcc jdh jcc cyI jfl jcl cyI jfM jbW cyI jdN jbL cyI jdi jbs cyI jci jbt cyI jcj a2 cyJ n2 f2) s.heap.size = A at hD hXu hXn ⊢
  have hA : ∀ q : Nat, s.heap.size ≤ q → A q := fun q h => by rw [← hAe]; exact Or.inr h
  have hS : va_S A s.heap s.heap [] := va_S.rf
  have hP : va_P (dC, dI) vwCl (qME a0 jaK jaR ja1 jb6 jbc jbV ja3 jbH jaT jbO jaq jac jbI jbl jbn jba jaa jdu jdD jaR jbs jbt jbo jbp jbk jbj jbf jbq jbE jbm jbi jcd jaT jbb jbr jaR jb6 jbb cyI jbQ jb6 jbW jbL jcl jcc jdh jcc cyI jfl jcl cyI jfM jbW cyI jdN jbL cyI jdi jbs cyI jci jbt cyI jcj a2 cyJ n2 f2) s.heap := hP
  have hl := lv_entry ([.ref a0, .int p1, .ref a2]) (n := 4) (nbq rfl)
  rw [lg_entry_eq]
  generalize (lg_sl ([.ref a0, .int p1, .ref a2]) ++ List.replicate (4 - (lg_sl ([.ref a0, .int p1, .ref a2])).length) Slot.unset).toArray = ls at hl ⊢
  have hl : lv_has ls 4 [(0, .ref a0), (1, .int p1), (2, .ref a2)] := hl
  have hY : cfY l s A := ⟨hXl, hXu, hXn, hXt⟩
  have hTb := vx_table (x := yL_range) B (hts _ qaRi)
  clear hAe
  obtain ⟨H, hH⟩ : ∃ H, H = s.heap := ⟨_, rfl⟩
  rw [← hH] at hP ⊢
  have hS : va_S A s.heap H [] := by rw [hH]; exact va_S.rf
  have hS := hS
  refine lv_aload_n hx hb (qaa qq9 0 rfl) rfl (lv_at hl 2 rfl) ?_
  refine lv_iconst (v := 0) hx hb (qaa qq9 1 rfl) (by decide) ?_
  refine lv_aload_n hx hb (qaa qq9 2 rfl) rfl (lv_at hl 0 rfl) ?_
  refine lv_iload_n hx hb (qaa qq9 3 rfl) rfl (lv_at hl 1 rfl) ?_
  obtain ⟨hCc, hPc, hDc, hFc⟩ := qac (ws' := (qaYe a0 jaK jaR ja1 jb6 jbc jbV ja3 jbH jaT jbO jaq jac jbI jbl jbn jba jaa jdu jdD jaR jbs jbt jbo jbp jbk jbj jbf jbq jbE jbm jbi jcd jaT jbb jbr jaR jb6 jbb cyI jbQ jb6 jbW jbL jcl jcc jdh jcc cyI jfl jcl cyI jfM jbW cyI jdN jbL cyI jdi jbs cyI jci jbt cyI jcj)) hP hD hS hA [0, 1, 2, 3, 4, 5, 6, 7, 8, 9, 10] (by decide +kernel) rfl
  refine vx_calli (vx_runV (As := [.int p1]) (rest := [.int 0, .ref a2]) ⟨hx, hb, hml, hown, hts⟩ (qaV0 l dC dI cyB cyI cyJ cyP a0 jaR jaT jbb jb6 jcc jcl jbW jbL jbs jbt H.size (jaK) (ja1) (.ref jb6) (jbc) (jbV) (ja3) (jbH) (jbO) (jaq) (jac) (jbI) (jbl) (jbn) (jba) (jaa) (jdD) (jbo) (jbp) (jbk) (jbj) (jbf) (jbq) (jbi) (jcd) (jbr) jbE jbm jbQ jdh jdN jdi jci jcj jdu jfl jfM p1 hw) (cwV 1 hts gL_range_X10_range rfl rfl rfl (by decide +kernel) ⟨nbq rfl, nbq rfl⟩) ⟨qav, va_recv (q := (RX10, TX10, 19)) hK hPc (ci := 10) (q0 := 0) rfl rfl, qbl hPc hK hDc hNw hY hS hFc⟩ rfl rfl hl.1 rfl (lv_room (nbq rfl)) (qaa qq9 4 rfl) ⟨nbq rfl, nbq rfl⟩) hS (fun q _ h => hFc q h) hFc (fun q _ h => hFc q h) (fun en ce qx9 u t H1 locs ht hvm hpx hB hz1 hk1 hS hc9 hv9 hcl9 => ?_) (fun r5 u t H1 locs ht hvm hw hB hz1 hk1 hS => ?_)
  · obtain ⟨x1, f3, f4⟩ := u
    obtain ⟨hw, hP1, hK1, hD1⟩ := hB
    rw [ht] at hP1
    obtain ⟨hP, hD⟩ := qad (wr := [(a2, .inl (cyJ, n2, .inr (.inl f2)))]) (w1 := (qaYe a0 jaK jaR ja1 jb6 jbc jbV ja3 jbH jaT jbO jaq jac jbI jbl jbn jba jaa x1 jdD jaR jbs jbt jbo jbp jbk jbj jbf jbq jbE jbm jbi jcd jaT jbb jbr jaR jb6 jbb cyI jbQ jb6 jbW jbL jcl jcc jdh jcc cyI f3 jcl cyI f4 jbW cyI jdN jbL cyI jdi jbs cyI jci jbt cyI jcj)) (wn := (qME a0 jaK jaR ja1 jb6 jbc jbV ja3 jbH jaT jbO jaq jac jbI jbl jbn jba jaa x1 jdD jaR jbs jbt jbo jbp jbk jbj jbf jbq jbE jbm jbi jcd jaT jbb jbr jaR jb6 jbb cyI jbQ jb6 jbW jbL jcl jcc jdh jcc cyI f3 jcl cyI f4 jbW cyI jdN jbL cyI jdi jbs cyI jci jbt cyI jcj a2 cyJ n2 f2)) hP hD [0, 1, 2, 3, 4, 5, 6, 7, 8, 9, 10] [11] [1, 2, 3, 4, 5, 6, 7, 8, 9, 10, 11, 0] hCc rfl (by decide +kernel) (by decide +kernel) (by decide +kernel) rfl hk1 hFc hP1 hD1
    generalize H1 = H at hP hS hc9 ⊢
    obtain ⟨rfl, hw⟩ := hw
    refine vx_catch (own := RL) (name := "java/util/NoSuchElementException") hown [] ⟨0, 9, 12, 31⟩ [] (hTb.trans rfl) (fun z hz => nomatch hz) (by decide) (by decide) (hts _ qazy) (va_Nw.use rfl (hY.2.2.2.1.2 _ (List.mem_of_getElem? (i := 1) rfl))) hc9 hv9 hcl9 ?_
    refine lv_astore_n (lv' := [(3, .ref qx9), (0, .ref a0), (1, .int p1), (2, .ref a2)]) hx hb (qaa qq9 8 rfl) rfl hl (by decide) rfl (fun ls hl => ?_)
    refine lv_iconst (v := 1) hx hb (qaa qq9 9 rfl) (by decide) ?_
    exact (W.widen (k := 1) (n := 6) (nbq rfl) (nbq rfl) (W.iret (v := 1) hx hb hr (fun t ht hW => ⟨⟨1, (x1, f3, f4, f2), rfl, hw, by rw [ht]; exact hP, va_K.moved hW.alike hK, hD⟩, hS.F ht⟩) hS.2.2 (qaa qq9 10 rfl)))
  obtain ⟨x1, f3, f4⟩ := u
  obtain ⟨hP1, hK1, hD1⟩ := hB
  rw [ht] at hP1
  obtain ⟨hP, hD⟩ := va_join (wr := [(a2, .inl (cyJ, n2, .inr (.inl f2)))]) (w1 := (qaYe a0 jaK jaR ja1 jb6 jbc jbV ja3 jbH jaT jbO jaq jac jbI jbl jbn jba jaa x1 jdD jaR jbs jbt jbo jbp jbk jbj jbf jbq jbE jbm jbi jcd jaT jbb jbr jaR jb6 jbb cyI jbQ jb6 jbW jbL jcl jcc jdh jcc cyI f3 jcl cyI f4 jbW cyI jdN jbL cyI jdi jbs cyI jci jbt cyI jcj)) hP hD [0, 1, 2, 3, 4, 5, 6, 7, 8, 9, 10] [11] rfl rfl (by decide) (by decide) hk1 hFc hP1 hD1
  have hP : va_P (dC, dI) vwCl (qME a0 jaK jaR ja1 jb6 jbc jbV ja3 jbH jaT jbO jaq jac jbI jbl jbn jba jaa x1 jdD jaR jbs jbt jbo jbp jbk jbj jbf jbq jbE jbm jbi jcd jaT jbb jbr jaR jb6 jbb cyI jbQ jb6 jbW jbL jcl jcc jdh jcc cyI f3 jcl cyI f4 jbW cyI jdN jbL cyI jdi jbs cyI jci jbt cyI jcj a2 cyJ n2 f2) H1 := hP.sub [1, 2, 3, 4, 5, 6, 7, 8, 9, 10, 11, 0] rfl
  have hD : va_D A (qME a0 jaK jaR ja1 jb6 jbc jbV ja3 jbH jaT jbO jaq jac jbI jbl jbn jba jaa x1 jdD jaR jbs jbt jbo jbp jbk jbj jbf jbq jbE jbm jbi jcd jaT jbb jbr jaR jb6 jbb cyI jbQ jb6 jbW jbL jcl jcc jdh jcc cyI f3 jcl cyI f4 jbW cyI jdN jbL cyI jdi jbs cyI jci jbt cyI jcj a2 cyJ n2 f2) := hD.sub [1, 2, 3, 4, 5, 6, 7, 8, 9, 10, 11, 0] (by decide) rfl
  generalize H1 = H at hP hS ⊢
  refine lv_i2l (v := r5.toInt64) hx hb (qaa qq9 5 rfl) rfl ?_
  refine lv_topl (fun x6 ex6 => ?_)
  have hw := hw x6 ex6
  obtain ⟨hi9, hw⟩ := hw
  refine va_last hx hb hK hP hD hS 11 2 rfl rfl hi9 (qaa qq9 6 rfl) (fun H locs hP hD hS => ?_)
  obtain ⟨f7, ef7⟩ : ∃ y : Nat → Int64, y = vp_updL f2 (0 : Int32).toNatClampNeg x6 := ⟨_, rfl⟩
  have hw := hw f7 ef7
  have hP : va_P (dC, dI) vwCl (qME a0 jaK jaR ja1 jb6 jbc jbV ja3 jbH jaT jbO jaq jac jbI jbl jbn jba jaa x1 jdD jaR jbs jbt jbo jbp jbk jbj jbf jbq jbE jbm jbi jcd jaT jbb jbr jaR jb6 jbb cyI jbQ jb6 jbW jbL jcl jcc jdh jcc cyI f3 jcl cyI f4 jbW cyI jdN jbL cyI jdi jbs cyI jci jbt cyI jcj a2 cyJ n2 f7) H := by rw [ef7]; exact hP
  have hD : va_D A (qME a0 jaK jaR ja1 jb6 jbc jbV ja3 jbH jaT jbO jaq jac jbI jbl jbn jba jaa x1 jdD jaR jbs jbt jbo jbp jbk jbj jbf jbq jbE jbm jbi jcd jaT jbb jbr jaR jb6 jbb cyI jbQ jb6 jbW jbL jcl jcc jdh jcc cyI f3 jcl cyI f4 jbW cyI jdN jbL cyI jdi jbs cyI jci jbt cyI jcj a2 cyJ n2 f7) := by rw [ef7]; exact hD
  refine lv_goto (tgt := 15) hx hb (qaa qq9 7 rfl) (by decide) ?_
  refine lv_iconst (v := 0) hx hb (qaa qq9 11 rfl) (by decide) ?_
  exact (W.widen (k := 1) (n := 6) (nbq rfl) (nbq rfl) (W.iret (v := 0) hx hb hr (fun t ht hW => ⟨⟨0, (x1, f3, f4, f7), rfl, hw, by rw [ht]; exact hP, va_K.moved hW.alike hK, hD⟩, hS.F ht⟩) hS.2.2 (qaa qq9 12 rfl)))
theorem qym : ∀ w ∈ u_ws RX10 TX10 19, w ∈ wsX10_refuge := uiM qsB qyN (by decide +kernel)
theorem qarj : ∀ w ∈ u_ws RX2 TX2 12, w ∈ wsX10_refuge := uiM qsB qLp (by decide +kernel)
theorem qafm : (.fieldLink RX10 149 "MarchHares$Down" "forms" "I" : Cond) ∈ wsX10_refuge := qsB 1557 (by decide +kernel)
theorem qye : (.fieldLink RX10 19 "MarchHares" "ground" "LMarchHares$Down;" : Cond) ∈ wsX10_refuge := qsB 20 (by decide +kernel)
set_option maxHeartbeats 4000000 in
set_option maxRecDepth 100000 in
theorem qMb {p : Program} {l : Launch} {e : Env} {s : State} {m : MethodId} {args : Array Value} {below : List Frame} {meth : Method} {c : Code} {A : Nat → Prop} (dC : Nat → ClassId) (dI : Nat → Nat → Nat) (cyB cyI cyJ cyP : ClassId) (a0 jaR jbs jbt : Nat) (jaK ja1 jcp jbc jbV ja3 jbH ja2 jbO jaq jac jbI jbl jbn jba jaa jbo jbp jbk jbj jbf jbq jgP jbi : Value) (jbE jdB : Int32) (jci jcj : NI) (E : String → Int32 → Int32 → Prop) (Q : Int32 → Int32 → Int32 → Prop) (K17 : Int32 → Int32 → Int32 → Int32 → Int32 → Int32 → Prop) (hK17 : ∀ (H : Heap) (locs : List Loc) (ls : Array Slot) (jdu jbz l1 l2 l3 l4 : Int32), va_P (dC, dI) vwCl (qkB a0 jaK jaR ja1 jcp jbc jbV ja3 jbH ja2 jbO jaq jac jbI jbl jbn jba jaa jdu jbz jaR jbs jbt jbo jbp jbk jbj jbf jbq jbE jgP jbi jdB jbs cyI jci jbt cyI jcj) H → va_D A (qkB a0 jaK jaR ja1 jcp jbc jbV ja3 jbH ja2 jbO jaq jac jbI jbl jbn jba jaa jdu jbz jaR jbs jbt jbo jbp jbk jbj jbf jbq jbE jgP jbi jdB jbs cyI jci jbt cyI jcj) → va_S A s.heap H locs → lv_has ls 5 [(0, .ref a0), (1, .int l1), (2, .int l2), (3, .int l3), (4, .int l4)] → K17 jdu jbz l1 l2 l3 l4 → W p l e (headSpec wsX10_refuge ({ frames := 8, cells := 2, slots := 12, locals := 164 })).room s m args below meth c H locs 2 12 (vx_MQ below (va_Qi (fun (r : Int32) (u : Int32 × Int32) => Q r u.1 u.2) (cB (dC, dI) (kT cyB cyI cyJ cyP) A (fun u : Int32 × Int32 => ((qkB a0 jaK jaR ja1 jcp jbc jbV ja3 jbH ja2 jbO jaq jac jbI jbl jbn jba jaa u.1 u.2 jaR jbs jbt jbo jbp jbk jbj jbf jbq jbE jgP jbi jdB jbs cyI jci jbt cyI jcj) : va_W))) A) (vx_X (fun _ => True) (fun (en : String) (u : Int32 × Int32) (t : State) => E en u.1 u.2 ∧ cB (dC, dI) (kT cyB cyI cyJ cyP) A (fun u : Int32 × Int32 => ((qkB a0 jaK jaR ja1 jcp jbc jbV ja3 jbH ja2 jbO jaq jac jbI jbl jbn jba jaa u.1 u.2 jaR jbs jbt jbo jbp jbk jbj jbf jbq jbE jgP jbi jdB jbs cyI jci jbt cyI jcj) : va_W)) u t) A) args s 2 12 A) (F0 m 17 ls [])) (C0 : cfx p s m args meth c cX10_refuge (some .int) wsX10_refuge RX10 5 A (dC, dI) (kT cyB cyI cyJ cyP) ∧ cfX l s c A) : ∀ (H : Heap) (locs : List Loc) (ls : Array Slot) (jdu jbz l1 l2 l3 l4 : Int32), va_P (dC, dI) vwCl (qkB a0 jaK jaR ja1 jcp jbc jbV ja3 jbH ja2 jbO jaq jac jbI jbl jbn jba jaa jdu jbz jaR jbs jbt jbo jbp jbk jbj jbf jbq jbE jgP jbi jdB jbs cyI jci jbt cyI jcj) H → va_D A (qkB a0 jaK jaR ja1 jcp jbc jbV ja3 jbH ja2 jbO jaq jac jbI jbl jbn jba jaa jdu jbz jaR jbs jbt jbo jbp jbk jbj jbf jbq jbE jgP jbi jdB jbs cyI jci jbt cyI jcj) → va_S A s.heap H locs → lv_has ls 5 [(0, .ref a0), (1, .int l1), (2, .int l2), (3, .int l3), (4, .int l4)] → qE5 jbE jdB jci jcj E Q K17 jdu jbz l1 l2 l3 l4 → W p l e (headSpec wsX10_refuge ({ frames := 8, cells := 2, slots := 12, locals := 164 })).room s m args below meth c H locs 2 12 (vx_MQ below (va_Qi (fun (r : Int32) (u : Int32 × Int32) => Q r u.1 u.2) (cB (dC, dI) (kT cyB cyI cyJ cyP) A (fun u : Int32 × Int32 => ((qkB a0 jaK jaR ja1 jcp jbc jbV ja3 jbH ja2 jbO jaq jac jbI jbl jbn jba jaa u.1 u.2 jaR jbs jbt jbo jbp jbk jbj jbf jbq jbE jgP jbi jdB jbs cyI jci jbt cyI jcj) : va_W))) A) (vx_X (fun _ => True) (fun (en : String) (u : Int32 × Int32) (t : State) => E en u.1 u.2 ∧ cB (dC, dI) (kT cyB cyI cyJ cyP) A (fun u : Int32 × Int32 => ((qkB a0 jaK jaR ja1 jcp jbc jbV ja3 jbH ja2 jbO jaq jac jbI jbl jbn jba jaa u.1 u.2 jaR jbs jbt jbo jbp jbk jbj jbf jbq jbE jgP jbi jdB jbs cyI jci jbt cyI jcj) : va_W)) u t) A) args s 2 12 A) (F0 m 71 ls []) := by
  obtain ⟨⟨hx, hb, hr, hts, hown, hlocks, hml, hA, hK, hNw⟩, hXs⟩ := id C0
  have hY := hXs.2
  intro H locs ls jdu jbz l1 l2 l3 l4 hP hD hS hl hw
  obtain ⟨x13, ex13⟩ : ∃ y : Int32, y = l4 + 1 := ⟨_, rfl⟩
  have hw := hw x13 ex13
  refine lv_iinc (v := x13) (lv' := [(4, .int x13), (0, .ref a0), (1, .int l1), (2, .int l2), (3, .int l3)]) hx hb (qaa qfr 6 rfl) hl (k := 4) rfl (by rw [ex13]; rfl) (by decide) rfl (fun ls hl => ?_)
  refine lv_goto (tgt := 17) hx hb (qaa qfr 7 rfl) (by decide) ?_
  exact hK17 _ _ _ jdu jbz l1 l2 l3 x13 hP hD hS (lv_sub hl [1, 2, 3, 4, 0] rfl) hw
set_option maxHeartbeats 4000000 in
set_option maxRecDepth 100000 in
theorem qZc {p : Program} {l : Launch} {e : Env} {s : State} {m : MethodId} {args : Array Value} {below : List Frame} {meth : Method} {c : Code} {A : Nat → Prop} (dC : Nat → ClassId) (dI : Nat → Nat → Nat) (cyB cyI cyJ cyP : ClassId) (a0 jaR jbs jbt : Nat) (jaK ja1 jcp jbc jbV ja3 jbH ja2 jbO jaq jac jbI jbl jbn jba jaa jbo jbp jbk jbj jbf jbq jgP jbi : Value) (jbE jdB : Int32) (jci jcj : NI) (E : String → Int32 → Int32 → Prop) (Q : Int32 → Int32 → Int32 → Prop) (K17 : Int32 → Int32 → Int32 → Int32 → Int32 → Int32 → Prop) (hK17 : ∀ (H : Heap) (locs : List Loc) (ls : Array Slot) (jdu jbz l1 l2 l3 l4 : Int32), va_P (dC, dI) vwCl (qkB a0 jaK jaR ja1 jcp jbc jbV ja3 jbH ja2 jbO jaq jac jbI jbl jbn jba jaa jdu jbz jaR jbs jbt jbo jbp jbk jbj jbf jbq jbE jgP jbi jdB jbs cyI jci jbt cyI jcj) H → va_D A (qkB a0 jaK jaR ja1 jcp jbc jbV ja3 jbH ja2 jbO jaq jac jbI jbl jbn jba jaa jdu jbz jaR jbs jbt jbo jbp jbk jbj jbf jbq jbE jgP jbi jdB jbs cyI jci jbt cyI jcj) → va_S A s.heap H locs → lv_has ls 5 [(0, .ref a0), (1, .int l1), (2, .int l2), (3, .int l3), (4, .int l4)] → K17 jdu jbz l1 l2 l3 l4 → W p l e (headSpec wsX10_refuge ({ frames := 8, cells := 2, slots := 12, locals := 164 })).room s m args below meth c H locs 2 12 (vx_MQ below (va_Qi (fun (r : Int32) (u : Int32 × Int32) => Q r u.1 u.2) (cB (dC, dI) (kT cyB cyI cyJ cyP) A (fun u : Int32 × Int32 => ((qkB a0 jaK jaR ja1 jcp jbc jbV ja3 jbH ja2 jbO jaq jac jbI jbl jbn jba jaa u.1 u.2 jaR jbs jbt jbo jbp jbk jbj jbf jbq jbE jgP jbi jdB jbs cyI jci jbt cyI jcj) : va_W))) A) (vx_X (fun _ => True) (fun (en : String) (u : Int32 × Int32) (t : State) => E en u.1 u.2 ∧ cB (dC, dI) (kT cyB cyI cyJ cyP) A (fun u : Int32 × Int32 => ((qkB a0 jaK jaR ja1 jcp jbc jbV ja3 jbH ja2 jbO jaq jac jbI jbl jbn jba jaa u.1 u.2 jaR jbs jbt jbo jbp jbk jbj jbf jbq jbE jgP jbi jdB jbs cyI jci jbt cyI jcj) : va_W)) u t) A) args s 2 12 A) (F0 m 17 ls [])) (C0 : cfx p s m args meth c cX10_refuge (some .int) wsX10_refuge RX10 5 A (dC, dI) (kT cyB cyI cyJ cyP) ∧ cfX l s c A) : ∀ (H : Heap) (locs : List Loc) (ls : Array Slot) (jdu jbz l1 l2 l4 : Int32), va_P (dC, dI) vwCl (qkB a0 jaK jaR ja1 jcp jbc jbV ja3 jbH ja2 jbO jaq jac jbI jbl jbn jba jaa jdu jbz jaR jbs jbt jbo jbp jbk jbj jbf jbq jbE jgP jbi jdB jbs cyI jci jbt cyI jcj) H → va_D A (qkB a0 jaK jaR ja1 jcp jbc jbV ja3 jbH ja2 jbO jaq jac jbI jbl jbn jba jaa jdu jbz jaR jbs jbt jbo jbp jbk jbj jbf jbq jbE jgP jbi jdB jbs cyI jci jbt cyI jcj) → va_S A s.heap H locs → lv_has ls 5 [(0, .ref a0), (1, .int l1), (2, .int l2), (4, .int l4)] → qML jbE jdB jci jcj E Q K17 jdu jbz l1 l2 l4 → W p l e (headSpec wsX10_refuge ({ frames := 8, cells := 2, slots := 12, locals := 164 })).room s m args below meth c H locs 2 12 (vx_MQ below (va_Qi (fun (r : Int32) (u : Int32 × Int32) => Q r u.1 u.2) (cB (dC, dI) (kT cyB cyI cyJ cyP) A (fun u : Int32 × Int32 => ((qkB a0 jaK jaR ja1 jcp jbc jbV ja3 jbH ja2 jbO jaq jac jbI jbl jbn jba jaa u.1 u.2 jaR jbs jbt jbo jbp jbk jbj jbf jbq jbE jgP jbi jdB jbs cyI jci jbt cyI jcj) : va_W))) A) (vx_X (fun _ => True) (fun (en : String) (u : Int32 × Int32) (t : State) => E en u.1 u.2 ∧ cB (dC, dI) (kT cyB cyI cyJ cyP) A (fun u : Int32 × Int32 => ((qkB a0 jaK jaR ja1 jcp jbc jbV ja3 jbH ja2 jbO jaq jac jbI jbl jbn jba jaa u.1 u.2 jaR jbs jbt jbo jbp jbk jbj jbf jbq jbE jgP jbi jdB jbs cyI jci jbt cyI jcj) : va_W)) u t) A) args s 2 12 A) (F0 m 68 ls []) := by
  obtain ⟨⟨hx, hb, hr, hts, hown, hlocks, hml, hA, hK, hNw⟩, hXs⟩ := id C0
  have hY := hXs.2
  intro H locs ls jdu jbz l1 l2 l4 hP hD hS hl hw
  refine lv_iload hx hb (qaa qfr 4 rfl) (lv_at hl 3 rfl) ?_
  refine lv_istore_n (lv' := [(3, .int l4), (0, .ref a0), (1, .int l1), (2, .int l2), (4, .int l4)]) hx hb (qaa qfr 5 rfl) rfl hl (by decide) rfl (fun ls hl => ?_)
  exact qMb dC dI cyB cyI cyJ cyP a0 jaR jbs jbt jaK ja1 jcp jbc jbV ja3 jbH ja2 jbO jaq jac jbI jbl jbn jba jaa jbo jbp jbk jbj jbf jbq jgP jbi jbE jdB jci jcj E Q K17 hK17 C0 _ _ _ jdu jbz l1 l2 l4 l4 hP hD hS (lv_sub hl [1, 2, 3, 0, 4] rfl) hw
set_option maxHeartbeats 4000000 in
set_option maxRecDepth 100000 in
theorem qZB {p : Program} {l : Launch} {e : Env} {s : State} {m : MethodId} {args : Array Value} {below : List Frame} {meth : Method} {c : Code} {A : Nat → Prop} (dC : Nat → ClassId) (dI : Nat → Nat → Nat) (cyB cyI cyJ cyP : ClassId) (a0 jaR jbs jbt : Nat) (jaK ja1 jcp jbc jbV ja3 jbH ja2 jbO jaq jac jbI jbl jbn jba jaa jbo jbp jbk jbj jbf jbq jgP jbi : Value) (jbE jdB : Int32) (jci jcj : NI) (E : String → Int32 → Int32 → Prop) (Q : Int32 → Int32 → Int32 → Prop) (C0 : cfx p s m args meth c cX10_refuge (some .int) wsX10_refuge RX10 5 A (dC, dI) (kT cyB cyI cyJ cyP) ∧ cfX l s c A) : ∀ (H : Heap) (locs : List Loc) (ls : Array Slot) (jdu jbz l3 : Int32), va_P (dC, dI) vwCl (qkB a0 jaK jaR ja1 jcp jbc jbV ja3 jbH ja2 jbO jaq jac jbI jbl jbn jba jaa jdu jbz jaR jbs jbt jbo jbp jbk jbj jbf jbq jbE jgP jbi jdB jbs cyI jci jbt cyI jcj) H → va_D A (qkB a0 jaK jaR ja1 jcp jbc jbV ja3 jbH ja2 jbO jaq jac jbI jbl jbn jba jaa jdu jbz jaR jbs jbt jbo jbp jbk jbj jbf jbq jbE jgP jbi jdB jbs cyI jci jbt cyI jcj) → va_S A s.heap H locs → lv_has ls 5 [(3, .int l3)] → qMs jbE jdB jci jcj E Q jdu jbz l3 → W p l e (headSpec wsX10_refuge ({ frames := 8, cells := 2, slots := 12, locals := 164 })).room s m args below meth c H locs 2 12 (vx_MQ below (va_Qi (fun (r : Int32) (u : Int32 × Int32) => Q r u.1 u.2) (cB (dC, dI) (kT cyB cyI cyJ cyP) A (fun u : Int32 × Int32 => ((qkB a0 jaK jaR ja1 jcp jbc jbV ja3 jbH ja2 jbO jaq jac jbI jbl jbn jba jaa u.1 u.2 jaR jbs jbt jbo jbp jbk jbj jbf jbq jbE jgP jbi jdB jbs cyI jci jbt cyI jcj) : va_W))) A) (vx_X (fun _ => True) (fun (en : String) (u : Int32 × Int32) (t : State) => E en u.1 u.2 ∧ cB (dC, dI) (kT cyB cyI cyJ cyP) A (fun u : Int32 × Int32 => ((qkB a0 jaK jaR ja1 jcp jbc jbV ja3 jbH ja2 jbO jaq jac jbI jbl jbn jba jaa u.1 u.2 jaR jbs jbt jbo jbp jbk jbj jbf jbq jbE jgP jbi jdB jbs cyI jci jbt cyI jcj) : va_W)) u t) A) args s 2 12 A) (F0 m 86 ls []) := by
  obtain ⟨⟨hx, hb, hr, hts, hown, hlocks, hml, hA, hK, hNw⟩, hXs⟩ := id C0
  have hY := hXs.2
  intro H locs ls jdu jbz l3 hP hD hS hl hw
  refine lv_iload_n hx hb (qaa qfr 13 rfl) rfl (lv_at hl 0 rfl) ?_
  refine lv_goto (tgt := 99) hx hb (qaa qfr 14 rfl) (by decide) ?_
  exact vx_ret (W.widen (k := 2) (n := 12) (nbq rfl) (nbq rfl) (W.iret (v := l3) hx hb hr (fun t ht hW => ⟨⟨l3, (jdu, jbz), rfl, hw, by rw [ht]; exact hP, va_K.moved hW.alike hK, hD⟩, hS.F ht⟩) hS.2.2 (qaa qwz 4 rfl)))
set_option maxHeartbeats 4000000 in
set_option maxRecDepth 100000 in
theorem qaqc {p : Program} {l : Launch} {e : Env} {s : State} {m : MethodId} {args : Array Value} {below : List Frame} {meth : Method} {c : Code} {A : Nat → Prop} (dC : Nat → ClassId) (dI : Nat → Nat → Nat) (cyB cyI cyJ cyP : ClassId) (a0 jaR jbs jbt : Nat) (jaK ja1 jcp jbc jbV ja3 jbH ja2 jbO jaq jac jbI jbl jbn jba jaa jbo jbp jbk jbj jbf jbq jgP jbi : Value) (jbE jdB : Int32) (jci jcj : NI) (E : String → Int32 → Int32 → Prop) (Q : Int32 → Int32 → Int32 → Prop) (C0 : cfx p s m args meth c cX10_refuge (some .int) wsX10_refuge RX10 5 A (dC, dI) (kT cyB cyI cyJ cyP) ∧ cfX l s c A) : ∀ (n : Nat) (H : Heap) (locs : List Loc) (ls : Array Slot) (jdu jbz l1 l2 l3 l4 : Int32), va_P (dC, dI) vwCl (qkB a0 jaK jaR ja1 jcp jbc jbV ja3 jbH ja2 jbO jaq jac jbI jbl jbn jba jaa jdu jbz jaR jbs jbt jbo jbp jbk jbj jbf jbq jbE jgP jbi jdB jbs cyI jci jbt cyI jcj) H → va_D A (qkB a0 jaK jaR ja1 jcp jbc jbV ja3 jbH ja2 jbO jaq jac jbI jbl jbn jba jaa jdu jbz jaR jbs jbt jbo jbp jbk jbj jbf jbq jbE jgP jbi jdB jbs cyI jci jbt cyI jcj) → va_S A s.heap H locs → lv_has ls 5 [(0, .ref a0), (1, .int l1), (2, .int l2), (3, .int l3), (4, .int l4)] → qm0 jbE jdB jci jcj E Q n jdu jbz l1 l2 l3 l4 → W p l e (headSpec wsX10_refuge ({ frames := 8, cells := 2, slots := 12, locals := 164 })).room s m args below meth c H locs 2 12 (vx_MQ below (va_Qi (fun (r : Int32) (u : Int32 × Int32) => Q r u.1 u.2) (cB (dC, dI) (kT cyB cyI cyJ cyP) A (fun u : Int32 × Int32 => ((qkB a0 jaK jaR ja1 jcp jbc jbV ja3 jbH ja2 jbO jaq jac jbI jbl jbn jba jaa u.1 u.2 jaR jbs jbt jbo jbp jbk jbj jbf jbq jbE jgP jbi jdB jbs cyI jci jbt cyI jcj) : va_W))) A) (vx_X (fun _ => True) (fun (en : String) (u : Int32 × Int32) (t : State) => E en u.1 u.2 ∧ cB (dC, dI) (kT cyB cyI cyJ cyP) A (fun u : Int32 × Int32 => ((qkB a0 jaK jaR ja1 jcp jbc jbV ja3 jbH ja2 jbO jaq jac jbI jbl jbn jba jaa u.1 u.2 jaR jbs jbt jbo jbp jbk jbj jbf jbq jbE jgP jbi jdB jbs cyI jci jbt cyI jcj) : va_W)) u t) A) args s 2 12 A) (F0 m 17 ls []) := by
  obtain ⟨⟨hx, hb, hr, hts, hown, hlocks, hml, hA, hK, hNw⟩, hXs⟩ := id C0
  have hY := hXs.2
  intro n
  induction n with
  | zero => intro H locs ls jdu jbz l1 l2 l3 l4 hP hD hS hl hw; exact False.elim hw
  | succ n ih =>
    intro H locs ls jdu jbz l1 l2 l3 l4 hP hD hS hl hw
    refine lv_iload hx hb (qaa qhj 12 rfl) (lv_at hl 4 rfl) ?_
    refine lv_aload_n hx hb (qaa qhj 13 rfl) rfl (lv_at hl 0 rfl) ?_
    refine va_get (D := (dC, dI)) (ci := 10) (v := .ref jaR) (C := RX10) (T := TX10) (N := 19) hx hb hts qym hown hK hP 0 rfl rfl 1 (by decide) (hts _ qye) (fun _ h9 => h9) rfl (qaa qhj 14 rfl) ?_
    refine va_get (D := (dC, dI)) (ci := 2) (v := .int jbE) (C := RX2) (T := TX2) (N := 12) hx hb hts qarj hown hK hP 1 rfl rfl 8 (by decide) (hts _ qafm) (fun _ h9 => h9) rfl (qaa qhj 15 rfl) ?_
    refine lv_icmp_ge (tgt := 77) hx hb (qaa qfP 0 rfl) (by decide) (fun c3 => ?_) (fun c3 => ?_)
    · have hw := hw.1 c3
      refine lv_iload_n hx hb (qaa qfr 8 rfl) rfl (lv_at hl 2 rfl) ?_
      refine lv_if_eq (tgt := 86) hx hb (qaa qfr 9 rfl) (by decide) (fun c4 => ?_) (fun c4 => ?_)
      · have hw := hw.1 c4
        exact qZB dC dI cyB cyI cyJ cyP a0 jaR jbs jbt jaK ja1 jcp jbc jbV ja3 jbH ja2 jbO jaq jac jbI jbl jbn jba jaa jbo jbp jbk jbj jbf jbq jgP jbi jbE jdB jci jcj E Q C0 _ _ _ jdu jbz l3 hP hD hS (lv_sub hl [3] rfl) hw
      · have hw := hw.2 c4
        refine lv_iload_n hx hb (qaa qfr 10 rfl) rfl (lv_at hl 3 rfl) ?_
        refine lv_iconst (v := (-1)) hx hb (qaa qfr 11 rfl) (by decide) ?_
        refine lv_icmp_ne (tgt := 90) hx hb (qaa qfr 12 rfl) (by decide) (fun c5 => ?_) (fun c5 => ?_)
        · have hw := hw.1 c5
          refine lv_aload_n hx hb (qaa qfr 15 rfl) rfl (lv_at hl 0 rfl) ?_
          refine va_get (D := (dC, dI)) (ci := 10) (v := .ref jaR) (C := RX10) (T := TX10) (N := 19) hx hb hts qym hown hK hP 0 rfl rfl 1 (by decide) (hts _ qye) (fun _ h9 => h9) rfl (qaa qwz 0 rfl) ?_
          refine lv_iload_n hx hb (qaa qwz 1 rfl) rfl (lv_at hl 1 rfl) ?_
          refine lv_iload_n hx hb (qaa qwz 2 rfl) rfl (lv_at hl 3 rfl) ?_
          obtain ⟨hCc, hPc, hDc, hFc⟩ := qac (ws' := (q2X jaR jbs jbt jbo jbp jbk jbj jbf jbq jbE jgP jbi jdB jbs cyI jci jbt cyI jcj)) hP hD hS hA [1, 2, 3] (by decide +kernel) rfl
          refine va_calli (va_runV (As := [.int l1, .int l3]) (rest := []) ⟨hx, hb, hml, hown, hts⟩ (qBF l dC dI cyB cyI cyJ cyP jaR jbs jbt H.size (jbo) (jbp) (jbk) (jbj) (jbf) (jbq) (.int jbE) (jgP) (jbi) (.int jdB) jci jcj l1 l3 hw) (cwV 2 hts gX10_refuge_X2_apart rfl rfl rfl (by decide +kernel) ⟨nbq rfl, nbq rfl⟩) ⟨qab, va_recv (q := (RX2, TX2, 12)) hK hPc (ci := 2) (q0 := 0) rfl rfl, qae hPc hK hDc hNw⟩ rfl rfl hl.1 rfl (lv_room (nbq rfl)) (qaa qwz 3 rfl) ⟨nbq rfl, nbq rfl⟩) hS (fun q _ h => hFc q h) hFc (fun r6 u t H1 locs ht hvm hw hB hz1 hk1 hS => ?_)
          obtain ⟨hP1, hK1, hD1⟩ := hB
          rw [ht] at hP1
          obtain ⟨hP, hD⟩ := qah (wr := (qalE a0 jaK jaR ja1 jcp jbc jbV ja3 jbH ja2 jbO jaq jac jbI jbl jbn jba jaa jdu jbz)) (w1 := (q2X jaR jbs jbt jbo jbp jbk jbj jbf jbq jbE jgP jbi jdB jbs cyI jci jbt cyI jcj)) (wn := (qkB a0 jaK jaR ja1 jcp jbc jbV ja3 jbH ja2 jbO jaq jac jbI jbl jbn jba jaa jdu jbz jaR jbs jbt jbo jbp jbk jbj jbf jbq jbE jgP jbi jdB jbs cyI jci jbt cyI jcj)) hP hD [1, 2, 3] [0] hCc rfl (by decide +kernel) (by decide +kernel) rfl hk1 hFc hP1 hD1
          generalize H1 = H at hP hS ⊢
          exact vx_ret (W.widen (k := 2) (n := 12) (nbq rfl) (nbq rfl) (W.iret (v := r6) hx hb hr (fun t ht hW => ⟨⟨r6, (jdu, jbz), rfl, hw, by rw [ht]; exact hP, va_K.moved hW.alike hK, hD⟩, hS.F ht⟩) hS.2.2 (qaa qwz 4 rfl)))
        · have hw := hw.2 c5
          exact qZB dC dI cyB cyI cyJ cyP a0 jaR jbs jbt jaK ja1 jcp jbc jbV ja3 jbH ja2 jbO jaq jac jbI jbl jbn jba jaa jbo jbp jbk jbj jbf jbq jgP jbi jbE jdB jci jcj E Q C0 _ _ _ jdu jbz l3 hP hD hS (lv_sub hl [3] rfl) hw
    · have hw := hw.2 c3
      refine lv_aload_n hx hb (qaa qfP 1 rfl) rfl (lv_at hl 0 rfl) ?_
      refine va_get (D := (dC, dI)) (ci := 10) (v := .ref jaR) (C := RX10) (T := TX10) (N := 19) hx hb hts qym hown hK hP 0 rfl rfl 1 (by decide) (hts _ qye) (fun _ h9 => h9) rfl (qaa qfP 2 rfl) ?_
      refine lv_iload hx hb (qaa qfP 3 rfl) (lv_at hl 4 rfl) ?_
      obtain ⟨hCc, hPc, hDc, hFc⟩ := qac (ws' := (qa9K jaR jbs jbt jbo jbp jbk jbj jbf jbq jbE jgP jbi jdB)) hP hD hS hA [1] (by decide +kernel) rfl
      refine va_calli (va_runV (As := [.int l4]) (rest := []) ⟨hx, hb, hml, hown, hts⟩ (q30 l dC dI cyB cyI cyJ cyP jaR H.size (.ref jbs) (.ref jbt) (jbo) (jbp) (jbk) (jbj) (jbf) (jbq) (.int jbE) (jgP) (jbi) jdB l4 hw) (cwV 1 hts gX10_refuge_X2_isSafe rfl rfl rfl (by decide +kernel) ⟨nbq rfl, nbq rfl⟩) ⟨qab, va_recv (q := (RX2, TX2, 12)) hK hPc (ci := 2) (q0 := 0) rfl rfl, qae hPc hK hDc hNw⟩ rfl rfl hl.1 rfl (lv_room (nbq rfl)) (qaa qfP 4 rfl) ⟨nbq rfl, nbq rfl⟩) hS (fun q _ h => hFc q h) hFc (fun r7 u t H1 locs ht hvm hw hB hz1 hk1 hS => ?_)
      obtain ⟨hP1, hK1, hD1⟩ := hB
      rw [ht] at hP1
      obtain ⟨hP, hD⟩ := qad (wr := [(a0, .inr (10, [jaK, .ref jaR, ja1, jcp, jbc, jbV, ja3, jbH, ja2, jbO, jaq, jac, jbI, jbl, jbn, jba, jaa, .int jdu, .int jbz])), (jbs, .inl (cyI, 8, .inl jci)), (jbt, .inl (cyI, 8, .inl jcj))]) (w1 := (qa9K jaR jbs jbt jbo jbp jbk jbj jbf jbq jbE jgP jbi jdB)) (wn := (qkB a0 jaK jaR ja1 jcp jbc jbV ja3 jbH ja2 jbO jaq jac jbI jbl jbn jba jaa jdu jbz jaR jbs jbt jbo jbp jbk jbj jbf jbq jbE jgP jbi jdB jbs cyI jci jbt cyI jcj)) hP hD [1] [0, 2, 3] [0, 3, 1, 2] hCc rfl (by decide +kernel) (by decide +kernel) (by decide +kernel) rfl hk1 hFc hP1 hD1
      generalize H1 = H at hP hS ⊢
      refine lv_if_eq (tgt := 71) hx hb (qaa qfP 5 rfl) (by decide) (fun c8 => ?_) (fun c8 => ?_)
      · have hw := hw.1 c8
        exact qMb dC dI cyB cyI cyJ cyP a0 jaR jbs jbt jaK ja1 jcp jbc jbV ja3 jbH ja2 jbO jaq jac jbI jbl jbn jba jaa jbo jbp jbk jbj jbf jbq jgP jbi jbE jdB jci jcj E Q (qm0 jbE jdB jci jcj E Q n) ih C0 _ _ _ jdu jbz l1 l2 l3 l4 hP hD hS (lv_sub hl [0, 1, 2, 3, 4] rfl) hw
      · have hw := hw.2 c8
        refine lv_iload_n hx hb (qaa qfP 6 rfl) rfl (lv_at hl 3 rfl) ?_
        refine lv_iconst (v := (-1)) hx hb (qaa qfP 7 rfl) (by decide) ?_
        refine lv_icmp_eq (tgt := 68) hx hb (qaa qfP 8 rfl) (by decide) (fun c9 => ?_) (fun c9 => ?_)
        · have hw := hw.1 c9
          exact qZc dC dI cyB cyI cyJ cyP a0 jaR jbs jbt jaK ja1 jcp jbc jbV ja3 jbH ja2 jbO jaq jac jbI jbl jbn jba jaa jbo jbp jbk jbj jbf jbq jgP jbi jbE jdB jci jcj E Q (qm0 jbE jdB jci jcj E Q n) ih C0 _ _ _ jdu jbz l1 l2 l4 hP hD hS (lv_sub hl [0, 1, 2, 4] rfl) hw
        · have hw := hw.2 c9
          refine lv_aload_n hx hb (qaa qfP 9 rfl) rfl (lv_at hl 0 rfl) ?_
          refine va_get (D := (dC, dI)) (ci := 10) (v := .ref jaR) (C := RX10) (T := TX10) (N := 19) hx hb hts qym hown hK hP 0 rfl rfl 1 (by decide) (hts _ qye) (fun _ h9 => h9) rfl (qaa qfP 10 rfl) ?_
          refine lv_iload_n hx hb (qaa qfP 11 rfl) rfl (lv_at hl 1 rfl) ?_
          refine lv_iload hx hb (qaa qfP 12 rfl) (lv_at hl 4 rfl) ?_
          obtain ⟨hCc, hPc, hDc, hFc⟩ := qac (ws' := (q2X jaR jbs jbt jbo jbp jbk jbj jbf jbq jbE jgP jbi jdB jbs cyI jci jbt cyI jcj)) hP hD hS hA [1, 2, 3] (by decide +kernel) rfl
          refine va_calli (va_runV (As := [.int l1, .int l4]) (rest := []) ⟨hx, hb, hml, hown, hts⟩ (qBF l dC dI cyB cyI cyJ cyP jaR jbs jbt H.size (jbo) (jbp) (jbk) (jbj) (jbf) (jbq) (.int jbE) (jgP) (jbi) (.int jdB) jci jcj l1 l4 hw) (cwV 2 hts gX10_refuge_X2_apart rfl rfl rfl (by decide +kernel) ⟨nbq rfl, nbq rfl⟩) ⟨qab, va_recv (q := (RX2, TX2, 12)) hK hPc (ci := 2) (q0 := 0) rfl rfl, qae hPc hK hDc hNw⟩ rfl rfl hl.1 rfl (lv_room (nbq rfl)) (qaa qfP 13 rfl) ⟨nbq rfl, nbq rfl⟩) hS (fun q _ h => hFc q h) hFc (fun r10 u t H1 locs ht hvm hw hB hz1 hk1 hS => ?_)
          obtain ⟨hP1, hK1, hD1⟩ := hB
          rw [ht] at hP1
          obtain ⟨hP, hD⟩ := qah (wr := (qalE a0 jaK jaR ja1 jcp jbc jbV ja3 jbH ja2 jbO jaq jac jbI jbl jbn jba jaa jdu jbz)) (w1 := (q2X jaR jbs jbt jbo jbp jbk jbj jbf jbq jbE jgP jbi jdB jbs cyI jci jbt cyI jcj)) (wn := (qkB a0 jaK jaR ja1 jcp jbc jbV ja3 jbH ja2 jbO jaq jac jbI jbl jbn jba jaa jdu jbz jaR jbs jbt jbo jbp jbk jbj jbf jbq jbE jgP jbi jdB jbs cyI jci jbt cyI jcj)) hP hD [1, 2, 3] [0] hCc rfl (by decide +kernel) (by decide +kernel) rfl hk1 hFc hP1 hD1
          generalize H1 = H at hP hS ⊢
          refine lv_aload_n hx hb (qaa qfP 14 rfl) rfl (lv_at hl 0 rfl) ?_
          refine va_get (D := (dC, dI)) (ci := 10) (v := .ref jaR) (C := RX10) (T := TX10) (N := 19) hx hb hts qym hown hK hP 0 rfl rfl 1 (by decide) (hts _ qye) (fun _ h9 => h9) rfl (qaa qfP 15 rfl) ?_
          refine lv_iload_n hx hb (qaa qfr 0 rfl) rfl (lv_at hl 1 rfl) ?_
          refine lv_iload_n hx hb (qaa qfr 1 rfl) rfl (lv_at hl 3 rfl) ?_
          obtain ⟨hCc, hPc, hDc, hFc⟩ := qac (ws' := (q2X jaR jbs jbt jbo jbp jbk jbj jbf jbq jbE jgP jbi jdB jbs cyI jci jbt cyI jcj)) hP hD hS hA [1, 2, 3] (by decide +kernel) rfl
          refine va_calli (va_runV (As := [.int l1, .int l3]) (rest := [.int r10]) ⟨hx, hb, hml, hown, hts⟩ (qBF l dC dI cyB cyI cyJ cyP jaR jbs jbt H.size (jbo) (jbp) (jbk) (jbj) (jbf) (jbq) (.int jbE) (jgP) (jbi) (.int jdB) jci jcj l1 l3 hw) (cwV 2 hts gX10_refuge_X2_apart rfl rfl rfl (by decide +kernel) ⟨nbq rfl, nbq rfl⟩) ⟨qab, va_recv (q := (RX2, TX2, 12)) hK hPc (ci := 2) (q0 := 0) rfl rfl, qae hPc hK hDc hNw⟩ rfl rfl hl.1 rfl (lv_room (nbq rfl)) (qaa qfr 2 rfl) ⟨nbq rfl, nbq rfl⟩) hS (fun q _ h => hFc q h) hFc (fun r11 u t H1 locs ht hvm hw hB hz1 hk1 hS => ?_)
          obtain ⟨hP1, hK1, hD1⟩ := hB
          rw [ht] at hP1
          obtain ⟨hP, hD⟩ := qah (wr := (qalE a0 jaK jaR ja1 jcp jbc jbV ja3 jbH ja2 jbO jaq jac jbI jbl jbn jba jaa jdu jbz)) (w1 := (q2X jaR jbs jbt jbo jbp jbk jbj jbf jbq jbE jgP jbi jdB jbs cyI jci jbt cyI jcj)) (wn := (qkB a0 jaK jaR ja1 jcp jbc jbV ja3 jbH ja2 jbO jaq jac jbI jbl jbn jba jaa jdu jbz jaR jbs jbt jbo jbp jbk jbj jbf jbq jbE jgP jbi jdB jbs cyI jci jbt cyI jcj)) hP hD [1, 2, 3] [0] hCc rfl (by decide +kernel) (by decide +kernel) rfl hk1 hFc hP1 hD1
          generalize H1 = H at hP hS ⊢
          refine lv_icmp_ge (tgt := 71) hx hb (qaa qfr 3 rfl) (by decide) (fun c12 => ?_) (fun c12 => ?_)
          · have hw := hw.1 c12
            exact qMb dC dI cyB cyI cyJ cyP a0 jaR jbs jbt jaK ja1 jcp jbc jbV ja3 jbH ja2 jbO jaq jac jbI jbl jbn jba jaa jbo jbp jbk jbj jbf jbq jgP jbi jbE jdB jci jcj E Q (qm0 jbE jdB jci jcj E Q n) ih C0 _ _ _ jdu jbz l1 l2 l3 l4 hP hD hS (lv_sub hl [0, 1, 2, 3, 4] rfl) hw
          · have hw := hw.2 c12
            exact qZc dC dI cyB cyI cyJ cyP a0 jaR jbs jbt jaK ja1 jcp jbc jbV ja3 jbH ja2 jbO jaq jac jbI jbl jbn jba jaa jbo jbp jbk jbj jbf jbq jgP jbi jbE jdB jci jcj E Q (qm0 jbE jdB jci jcj E Q n) ih C0 _ _ _ jdu jbz l1 l2 l4 hP hD hS (lv_sub hl [0, 1, 2, 4] rfl) hw
set_option maxHeartbeats 4000000 in
set_option maxRecDepth 100000 in
theorem qaN5 (l : Launch) (dC : Nat → ClassId) (dI : Nat → Nat → Nat) (cyB cyI cyJ cyP : ClassId) (a0 jaR jbs jbt sz : Nat) (jaK ja1 jcp jbc jbV ja3 jbH ja2 jbO jaq jac jbI jbl jbn jba jaa jbo jbp jbk jbj jbf jbq jgP jbi : Value) (jbE jdB : Int32) (jci jcj : NI) (jdu jbz p1 p2 : Int32) {E : String → Int32 → Int32 → Prop} {Q : Int32 → Int32 → Int32 → Prop} (hw : qXM jbE jdB jci jcj jdu jbz p1 p2 E Q) : vx_Met l yX10_refuge wsX10_refuge ({ frames := 8, cells := 2, slots := 12, locals := 164 }) (va_Pc [.ref a0, .int p1, .int p2] (cPx l (dC, dI) (kT cyB cyI cyJ cyP) (qkB a0 jaK jaR ja1 jcp jbc jbV ja3 jbH ja2 jbO jaq jac jbI jbl jbn jba jaa jdu jbz jaR jbs jbt jbo jbp jbk jbj jbf jbq jbE jgP jbi jdB jbs cyI jci jbt cyI jcj) sz)) (va_Qi (fun (r : Int32) (u : Int32 × Int32) => Q r u.1 u.2) (cB (dC, dI) (kT cyB cyI cyJ cyP) (va_A (qkB a0 jaK jaR ja1 jcp jbc jbV ja3 jbH ja2 jbO jaq jac jbI jbl jbn jba jaa jdu jbz jaR jbs jbt jbo jbp jbk jbj jbf jbq jbE jgP jbi jdB jbs cyI jci jbt cyI jcj) sz) (fun u : Int32 × Int32 => ((qkB a0 jaK jaR ja1 jcp jbc jbV ja3 jbH ja2 jbO jaq jac jbI jbl jbn jba jaa u.1 u.2 jaR jbs jbt jbo jbp jbk jbj jbf jbq jbE jgP jbi jdB jbs cyI jci jbt cyI jcj) : va_W))) (va_A (qkB a0 jaK jaR ja1 jcp jbc jbV ja3 jbH ja2 jbO jaq jac jbI jbl jbn jba jaa jdu jbz jaR jbs jbt jbo jbp jbk jbj jbf jbq jbE jgP jbi jdB jbs cyI jci jbt cyI jcj) sz)) (vx_X (fun _ => True) (fun (en : String) (u : Int32 × Int32) (t : State) => E en u.1 u.2 ∧ cB (dC, dI) (kT cyB cyI cyJ cyP) (va_A (qkB a0 jaK jaR ja1 jcp jbc jbV ja3 jbH ja2 jbO jaq jac jbI jbl jbn jba jaa jdu jbz jaR jbs jbt jbo jbp jbk jbj jbf jbq jbE jgP jbi jdB jbs cyI jci jbt cyI jcj) sz) (fun u : Int32 × Int32 => ((qkB a0 jaK jaR ja1 jcp jbc jbV ja3 jbH ja2 jbO jaq jac jbI jbl jbn jba jaa u.1 u.2 jaR jbs jbt jbo jbp jbk jbj jbf jbq jbE jgP jbi jdB jbs cyI jci jbt cyI jcj) : va_W)) u t) (va_A (qkB a0 jaK jaR ja1 jcp jbc jbV ja3 jbH ja2 jbO jaq jac jbI jbl jbn jba jaa jdu jbz jaR jbs jbt jbo jbp jbk jbj jbf jbq jbE jgP jbi jdB jbs cyI jci jbt cyI jcj) sz)) 2 12 (va_A (qkB a0 jaK jaR ja1 jcp jbc jbV ja3 jbH ja2 jbO jaq jac jbI jbl jbn jba jaa jdu jbz jaR jbs jbt jbo jbp jbk jbj jbf jbq jbE jgP jbi jdB jbs cyI jci jbt cyI jcj) sz) := by
  refine vx_ofW (cc := cX10_refuge) (maxL := 5) (ret := (some .int)) (by decide) rfl ?_
  intro p e s m args below meth c s₁ B hml hnt hv
  obtain ⟨rfl, hsz, hP, hK, hD0, hNw, hXl, hXu, hXn, hXt⟩ := hv
  have hx := B.exec
  have hb := B.bytes
  have hr := B.returns
  have hts := atoms_spec (ws := wsX10_refuge) B.pre
  have hown : s.vm.findClass RX10 = some m.cls := findClass_of_methodNamed B.named
  have hlocks := B.notSynchronized
  subst hsz
  have hD := hD0.self (sz := s.heap.size)
  generalize hAe : va_A (qkB a0 jaK jaR ja1 jcp jbc jbV ja3 jbH ja2 jbO jaq jac jbI jbl jbn jba jaa jdu jbz jaR jbs jbt jbo jbp jbk jbj jbf jbq jbE jgP jbi jdB jbs cyI jci jbt cyI jcj) s.heap.size = A at hD hXu hXn ⊢
  have hA : ∀ q : Nat, s.heap.size ≤ q → A q := fun q h => by rw [← hAe]; exact Or.inr h
  have hS : va_S A s.heap s.heap [] := va_S.rf
  have hP : va_P (dC, dI) vwCl (qkB a0 jaK jaR ja1 jcp jbc jbV ja3 jbH ja2 jbO jaq jac jbI jbl jbn jba jaa jdu jbz jaR jbs jbt jbo jbp jbk jbj jbf jbq jbE jgP jbi jdB jbs cyI jci jbt cyI jcj) s.heap := hP
  have hl := lv_entry ([.ref a0, .int p1, .int p2]) (n := 5) (nbq rfl)
  rw [lg_entry_eq]
  generalize (lg_sl ([.ref a0, .int p1, .int p2]) ++ List.replicate (5 - (lg_sl ([.ref a0, .int p1, .int p2])).length) Slot.unset).toArray = ls at hl ⊢
  have hl : lv_has ls 5 [(0, .ref a0), (1, .int p1), (2, .int p2)] := hl
  have hY : cfY l s A := ⟨hXl, hXu, hXn, hXt⟩
  have hXs : cfX l s c A := ⟨hnt, hY⟩
  have C0 : cfx p s m _ meth c cX10_refuge (some .int) wsX10_refuge RX10 5 A (dC, dI) (kT cyB cyI cyJ cyP) ∧ cfX l s c A := ⟨⟨hx, hb, hr, hts, hown, hlocks, hml, hA, hK, hNw⟩, hXs⟩
  clear hAe
  obtain ⟨H, hH⟩ : ∃ H, H = s.heap := ⟨_, rfl⟩
  rw [← hH] at hP ⊢
  have hS : va_S A s.heap H [] := by rw [hH]; exact va_S.rf
  have hS := hS
  refine lv_aload_n hx hb (qaa qhj 0 rfl) rfl (lv_at hl 0 rfl) ?_
  refine lv_iload_n hx hb (qaa qhj 1 rfl) rfl (lv_at hl 1 rfl) ?_
  obtain ⟨hCc, hPc, hDc, hFc⟩ := qac (ws' := (qaWF a0 jaK jaR ja1 jcp jbc jbV ja3 jbH ja2 jbO jaq jac jbI jbl jbn jba jaa jdu jbz jaR jbs jbt jbo jbp jbk jbj jbf jbq jbE jgP jbi jdB)) hP hD hS hA [0, 1] (by decide +kernel) rfl
  refine vx_callv (vx_runV (As := [.int p1]) (rest := []) ⟨hx, hb, hml, hown, hts⟩ (qyj l dC dI cyB cyI cyJ cyP a0 jaR H.size (jaK) (ja1) (jcp) (jbc) (jbV) (ja3) (jbH) (ja2) (jbO) (jaq) (jac) (jbI) (jbl) (jbn) (jba) (jaa) (.int jbz) (.ref jbs) (.ref jbt) (jbo) (jbp) (jbk) (jbj) (jbf) (jbq) (jgP) (jbi) (.int jdB) jbE jdu p1 hw) (cwV 1 hts gX10_refuge_X10_needForm rfl rfl rfl (by decide +kernel) ⟨nbq rfl, nbq rfl⟩) ⟨qav, va_recv (q := (RX10, TX10, 19)) hK hPc (ci := 10) (q0 := 0) rfl rfl, qbl hPc hK hDc hNw hY hS hFc⟩ rfl rfl hl.1 rfl (lv_room (nbq rfl)) (qaa qhj 2 rfl) ⟨nbq rfl, nbq rfl⟩) hS (fun q _ h => hFc q h) hFc (fun q _ h => hFc q h) (fun en ce q9 u t H1 locs ht hvm hpx hB hz1 hk1 hS hc9 hv9 hcl9 => ?_) (fun u t H1 locs ht hvm hw hB hz1 hk1 hS => ?_)
  · obtain ⟨x1, rfl⟩ : ∃ z, z = u := ⟨_, rfl⟩
    obtain ⟨hw, hP1, hK1, hD1⟩ := hB
    rw [ht] at hP1
    obtain ⟨hP, hD⟩ := qad (wr := (qaWt jbs cyI jci jbt cyI jcj)) (w1 := (qaWF a0 jaK jaR ja1 jcp jbc jbV ja3 jbH ja2 jbO jaq jac jbI jbl jbn jba jaa x1 jbz jaR jbs jbt jbo jbp jbk jbj jbf jbq jbE jgP jbi jdB)) (wn := (qkB a0 jaK jaR ja1 jcp jbc jbV ja3 jbH ja2 jbO jaq jac jbI jbl jbn jba jaa x1 jbz jaR jbs jbt jbo jbp jbk jbj jbf jbq jbE jgP jbi jdB jbs cyI jci jbt cyI jcj)) hP hD [0, 1] [2, 3] [2, 3, 0, 1] hCc rfl (by decide +kernel) (by decide +kernel) (by decide +kernel) rfl hk1 hFc hP1 hD1
    generalize H1 = H at hP hS hc9 ⊢
    exact vx_out (fun x hx9 => (hXs.1 x hx9).elim) hlocks hc9 hv9 hcl9 (fun t2 ht2 hal2 => ⟨(x1, jbz), trivial, ⟨hw, by rw [ht2]; exact hP, va_K.moved hal2 hK, hD⟩, hS.F ht2⟩) hS.2.2 (nbq rfl) (nbq rfl)
  obtain ⟨x1, rfl⟩ : ∃ z, z = u := ⟨_, rfl⟩
  obtain ⟨hP1, hK1, hD1⟩ := hB
  rw [ht] at hP1
  obtain ⟨hP, hD⟩ := qad (wr := (qaWt jbs cyI jci jbt cyI jcj)) (w1 := (qaWF a0 jaK jaR ja1 jcp jbc jbV ja3 jbH ja2 jbO jaq jac jbI jbl jbn jba jaa x1 jbz jaR jbs jbt jbo jbp jbk jbj jbf jbq jbE jgP jbi jdB)) (wn := (qkB a0 jaK jaR ja1 jcp jbc jbV ja3 jbH ja2 jbO jaq jac jbI jbl jbn jba jaa x1 jbz jaR jbs jbt jbo jbp jbk jbj jbf jbq jbE jgP jbi jdB jbs cyI jci jbt cyI jcj)) hP hD [0, 1] [2, 3] [2, 3, 0, 1] hCc rfl (by decide +kernel) (by decide +kernel) (by decide +kernel) rfl hk1 hFc hP1 hD1
  generalize H1 = H at hP hS ⊢
  refine lv_aload_n hx hb (qaa qhj 3 rfl) rfl (lv_at hl 0 rfl) ?_
  refine lv_iload_n hx hb (qaa qhj 4 rfl) rfl (lv_at hl 2 rfl) ?_
  refine lv_iconst (v := 0) hx hb (qaa qhj 5 rfl) (by decide) ?_
  refine lv_iconst (v := 1) hx hb (qaa qhj 6 rfl) (by decide) ?_
  obtain ⟨hCc, hPc, hDc, hFc⟩ := qac (ws' := (qalE a0 jaK jaR ja1 jcp jbc jbV ja3 jbH ja2 jbO jaq jac jbI jbl jbn jba jaa x1 jbz)) hP hD hS hA [0] (by decide +kernel) rfl
  refine vx_callv (vx_runV (As := [.int p2, .int 0, .int 1]) (rest := []) ⟨hx, hb, hml, hown, hts⟩ (qaV l dC dI cyB cyI cyJ cyP a0 H.size (jaK) (.ref jaR) (ja1) (jcp) (jbc) (jbV) (ja3) (jbH) (ja2) (jbO) (jaq) (jac) (jbI) (jbl) (jbn) (jba) (jaa) (.int x1) jbz p2 0 1 hw) (cwV 3 hts gX10_refuge_X10_needWithin rfl rfl rfl (by decide +kernel) ⟨nbq rfl, nbq rfl⟩) ⟨qav, va_recv (q := (RX10, TX10, 19)) hK hPc (ci := 10) (q0 := 0) rfl rfl, qbl hPc hK hDc hNw hY hS hFc⟩ rfl rfl hl.1 rfl (lv_room (nbq rfl)) (qaa qhj 7 rfl) ⟨nbq rfl, nbq rfl⟩) hS (fun q _ h => hFc q h) hFc (fun q _ h => hFc q h) (fun en ce q9 u t H1 locs ht hvm hpx hB hz1 hk1 hS hc9 hv9 hcl9 => ?_) (fun u t H1 locs ht hvm hw hB hz1 hk1 hS => ?_)
  · obtain ⟨x2, rfl⟩ : ∃ z, z = u := ⟨_, rfl⟩
    obtain ⟨hw, hP1, hK1, hD1⟩ := hB
    rw [ht] at hP1
    obtain ⟨hP, hD⟩ := qad (wr := (q2X jaR jbs jbt jbo jbp jbk jbj jbf jbq jbE jgP jbi jdB jbs cyI jci jbt cyI jcj)) (w1 := (qalE a0 jaK jaR ja1 jcp jbc jbV ja3 jbH ja2 jbO jaq jac jbI jbl jbn jba jaa x1 x2)) (wn := (qkB a0 jaK jaR ja1 jcp jbc jbV ja3 jbH ja2 jbO jaq jac jbI jbl jbn jba jaa x1 x2 jaR jbs jbt jbo jbp jbk jbj jbf jbq jbE jgP jbi jdB jbs cyI jci jbt cyI jcj)) hP hD [0] [1, 2, 3] [3, 0, 1, 2] hCc rfl (by decide +kernel) (by decide +kernel) (by decide +kernel) rfl hk1 hFc hP1 hD1
    generalize H1 = H at hP hS hc9 ⊢
    exact vx_out (fun x hx9 => (hXs.1 x hx9).elim) hlocks hc9 hv9 hcl9 (fun t2 ht2 hal2 => ⟨(x1, x2), trivial, ⟨hw, by rw [ht2]; exact hP, va_K.moved hal2 hK, hD⟩, hS.F ht2⟩) hS.2.2 (nbq rfl) (nbq rfl)
  obtain ⟨x2, rfl⟩ : ∃ z, z = u := ⟨_, rfl⟩
  obtain ⟨hP1, hK1, hD1⟩ := hB
  rw [ht] at hP1
  obtain ⟨hP, hD⟩ := qad (wr := (q2X jaR jbs jbt jbo jbp jbk jbj jbf jbq jbE jgP jbi jdB jbs cyI jci jbt cyI jcj)) (w1 := (qalE a0 jaK jaR ja1 jcp jbc jbV ja3 jbH ja2 jbO jaq jac jbI jbl jbn jba jaa x1 x2)) (wn := (qkB a0 jaK jaR ja1 jcp jbc jbV ja3 jbH ja2 jbO jaq jac jbI jbl jbn jba jaa x1 x2 jaR jbs jbt jbo jbp jbk jbj jbf jbq jbE jgP jbi jdB jbs cyI jci jbt cyI jcj)) hP hD [0] [1, 2, 3] [3, 0, 1, 2] hCc rfl (by decide +kernel) (by decide +kernel) (by decide +kernel) rfl hk1 hFc hP1 hD1
  generalize H1 = H at hP hS ⊢
  refine lv_iconst (v := (-1)) hx hb (qaa qhj 8 rfl) (by decide) ?_
  refine lv_istore_n (lv' := [(3, .int (-1)), (0, .ref a0), (1, .int p1), (2, .int p2)]) hx hb (qaa qhj 9 rfl) rfl hl (by decide) rfl (fun ls hl => ?_)
  refine lv_iconst (v := 0) hx hb (qaa qhj 10 rfl) (by decide) ?_
  refine lv_istore (lv' := [(4, .int 0), (3, .int (-1)), (0, .ref a0), (1, .int p1), (2, .int p2)]) hx hb (qaa qhj 11 rfl) hl (by decide) rfl (fun ls hl => ?_)
  obtain ⟨n9, hw⟩ := hw
  exact qaqc dC dI cyB cyI cyJ cyP a0 jaR jbs jbt jaK ja1 jcp jbc jbV ja3 jbH ja2 jbO jaq jac jbI jbl jbn jba jaa jbo jbp jbk jbj jbf jbq jgP jbi jbE jdB jci jcj E Q C0 n9 _ _ _ x1 x2 p1 p2 (-1) 0 hP hD hS (lv_sub hl [2, 3, 4, 1, 0] rfl) hw
theorem qasc : (.classLink RL 13 "java/lang/IllegalArgumentException" : Cond) ∈ wsL_refuge := qUZ 595 (by decide +kernel)
theorem qZA : (.classLink RL 31 "java/util/NoSuchElementException" : Cond) ∈ wsL_refuge := qUZ 2639 (by decide +kernel)
theorem qaER : (.codeWith yL_refuge cL_refuge 5 (some .int) [(0, 10, 13, 31), (0, 10, 17, 13)] : Cond) ∈ wsL_refuge := qUZ 3925 (by decide +kernel)
set_option maxHeartbeats 4000000 in
set_option maxRecDepth 100000 in
theorem qaYb (l : Launch) (dC : Nat → ClassId) (dI : Nat → Nat → Nat) (cyB cyI cyJ cyP : ClassId) (a0 a3 jaR jbs jbt sz : Nat) (jaK ja1 jcp jbc jbV ja3 jbH ja2 jbO jaq jac jbI jbl jbn jba jaa jbo jbp jbk jbj jbf jbq jgP jbi : Value) (n3 : Nat) (jbE jdB : Int32) (jci jcj : NI) (jdu jbz : Int32) (f3 : Nat → Int64) (p1 p2 : Int32) {Q : Int32 → Int32 → Int32 → (Nat → Int64) → Prop} (hw : qavW n3 jbE jdB jci jcj jdu jbz f3 p1 p2 Q) : Met l yL_refuge wsL_refuge ({ frames := 9, cells := 2, slots := 12, locals := 188 }) (va_Pc [.ref a0, .int p1, .int p2, .ref a3] (cPx l (dC, dI) (kT cyB cyI cyJ cyP) (qM5 a0 jaK jaR ja1 jcp jbc jbV ja3 jbH ja2 jbO jaq jac jbI jbl jbn jba jaa jdu jbz jaR jbs jbt jbo jbp jbk jbj jbf jbq jbE jgP jbi jdB jbs cyI jci jbt cyI jcj a3 cyJ n3 f3) sz)) (va_Qi (fun (r : Int32) (u : Int32 × Int32 × (Nat → Int64)) => Q r u.1 u.2.1 u.2.2) (cB (dC, dI) (kT cyB cyI cyJ cyP) (va_A (qM5 a0 jaK jaR ja1 jcp jbc jbV ja3 jbH ja2 jbO jaq jac jbI jbl jbn jba jaa jdu jbz jaR jbs jbt jbo jbp jbk jbj jbf jbq jbE jgP jbi jdB jbs cyI jci jbt cyI jcj a3 cyJ n3 f3) sz) (fun u : Int32 × Int32 × (Nat → Int64) => ((qM5 a0 jaK jaR ja1 jcp jbc jbV ja3 jbH ja2 jbO jaq jac jbI jbl jbn jba jaa u.1 u.2.1 jaR jbs jbt jbo jbp jbk jbj jbf jbq jbE jgP jbi jdB jbs cyI jci jbt cyI jcj a3 cyJ n3 u.2.2) : va_W))) (va_A (qM5 a0 jaK jaR ja1 jcp jbc jbV ja3 jbH ja2 jbO jaq jac jbI jbl jbn jba jaa jdu jbz jaR jbs jbt jbo jbp jbk jbj jbf jbq jbE jgP jbi jdB jbs cyI jci jbt cyI jcj a3 cyJ n3 f3) sz)) 2 12 (va_A (qM5 a0 jaK jaR ja1 jcp jbc jbV ja3 jbH ja2 jbO jaq jac jbI jbl jbn jba jaa jdu jbz jaR jbs jbt jbo jbp jbk jbj jbf jbq jbE jgP jbi jdB jbs cyI jci jbt cyI jcj a3 cyJ n3 f3) sz) := by
  refine va_MetW (cc := cL_refuge) (maxL := 5) (ret := (some .int)) (by decide) rfl ?_
  intro p e s m args below meth c s₁ B hml hv
  obtain ⟨rfl, hsz, hP, hK, hD0, hNw, hXl, hXu, hXn, hXt⟩ := hv
  have hx := B.exec
  have hb := B.bytes
  have hr := B.returns
  have hts := atoms_spec (ws := wsL_refuge) B.pre
  have hown : s.vm.findClass RL = some m.cls := findClass_of_methodNamed B.named
  have hlocks := B.notSynchronized
  subst hsz
  have hD := hD0.self (sz := s.heap.size)
  generalize hAe : va_A (qM5 a0 jaK jaR ja1 jcp jbc jbV ja3 jbH ja2 jbO jaq jac jbI jbl jbn jba jaa jdu jbz jaR jbs jbt jbo jbp jbk jbj jbf jbq jbE jgP jbi jdB jbs cyI jci jbt cyI jcj a3 cyJ n3 f3) s.heap.size = A at hD hXu hXn ⊢
  have hA : ∀ q : Nat, s.heap.size ≤ q → A q := fun q h => by rw [← hAe]; exact Or.inr h
  have hS : va_S A s.heap s.heap [] := va_S.rf
  have hP : va_P (dC, dI) vwCl (qM5 a0 jaK jaR ja1 jcp jbc jbV ja3 jbH ja2 jbO jaq jac jbI jbl jbn jba jaa jdu jbz jaR jbs jbt jbo jbp jbk jbj jbf jbq jbE jgP jbi jdB jbs cyI jci jbt cyI jcj a3 cyJ n3 f3) s.heap := hP
  have hl := lv_entry ([.ref a0, .int p1, .int p2, .ref a3]) (n := 5) (nbq rfl)
  rw [lg_entry_eq]
  generalize (lg_sl ([.ref a0, .int p1, .int p2, .ref a3]) ++ List.replicate (5 - (lg_sl ([.ref a0, .int p1, .int p2, .ref a3])).length) Slot.unset).toArray = ls at hl ⊢
  have hl : lv_has ls 5 [(0, .ref a0), (1, .int p1), (2, .int p2), (3, .ref a3)] := hl
  have hY : cfY l s A := ⟨hXl, hXu, hXn, hXt⟩
  have hTb := vx_table (x := yL_refuge) B (hts _ qaER)
  clear hAe
  obtain ⟨H, hH⟩ : ∃ H, H = s.heap := ⟨_, rfl⟩
  rw [← hH] at hP ⊢
  have hS : va_S A s.heap H [] := by rw [hH]; exact va_S.rf
  have hS := hS
  refine lv_aload_n hx hb (qaa qmz 0 rfl) rfl (lv_at hl 3 rfl) ?_
  refine lv_iconst (v := 0) hx hb (qaa qmz 1 rfl) (by decide) ?_
  refine lv_aload_n hx hb (qaa qmz 2 rfl) rfl (lv_at hl 0 rfl) ?_
  refine lv_iload_n hx hb (qaa qmz 3 rfl) rfl (lv_at hl 1 rfl) ?_
  refine lv_iload_n hx hb (qaa qmz 4 rfl) rfl (lv_at hl 2 rfl) ?_
  obtain ⟨hCc, hPc, hDc, hFc⟩ := qac (ws' := (qkB a0 jaK jaR ja1 jcp jbc jbV ja3 jbH ja2 jbO jaq jac jbI jbl jbn jba jaa jdu jbz jaR jbs jbt jbo jbp jbk jbj jbf jbq jbE jgP jbi jdB jbs cyI jci jbt cyI jcj)) hP hD hS hA [0, 1, 2, 3] (by decide +kernel) rfl
  refine vx_calli (vx_runV (As := [.int p1, .int p2]) (rest := [.int 0, .ref a3]) ⟨hx, hb, hml, hown, hts⟩ (qaN5 l dC dI cyB cyI cyJ cyP a0 jaR jbs jbt H.size (jaK) (ja1) (jcp) (jbc) (jbV) (ja3) (jbH) (ja2) (jbO) (jaq) (jac) (jbI) (jbl) (jbn) (jba) (jaa) (jbo) (jbp) (jbk) (jbj) (jbf) (jbq) (jgP) (jbi) jbE jdB jci jcj jdu jbz p1 p2 hw) (cwV 2 hts gL_refuge_X10_refuge rfl rfl rfl (by decide +kernel) ⟨nbq rfl, nbq rfl⟩) ⟨qav, va_recv (q := (RX10, TX10, 19)) hK hPc (ci := 10) (q0 := 0) rfl rfl, qbl hPc hK hDc hNw hY hS hFc⟩ rfl rfl hl.1 rfl (lv_room (nbq rfl)) (qaa qmz 5 rfl) ⟨nbq rfl, nbq rfl⟩) hS (fun q _ h => hFc q h) hFc (fun q _ h => hFc q h) (fun en ce qx9 u t H1 locs ht hvm hpx hB hz1 hk1 hS hc9 hv9 hcl9 => ?_) (fun r3 u t H1 locs ht hvm hw hB hz1 hk1 hS => ?_)
  · obtain ⟨x1, x2⟩ := u
    obtain ⟨hw, hP1, hK1, hD1⟩ := hB
    rw [ht] at hP1
    obtain ⟨hP, hD⟩ := qad (wr := [(a3, .inl (cyJ, n3, .inr (.inl f3)))]) (w1 := (qkB a0 jaK jaR ja1 jcp jbc jbV ja3 jbH ja2 jbO jaq jac jbI jbl jbn jba jaa x1 x2 jaR jbs jbt jbo jbp jbk jbj jbf jbq jbE jgP jbi jdB jbs cyI jci jbt cyI jcj)) (wn := (qM5 a0 jaK jaR ja1 jcp jbc jbV ja3 jbH ja2 jbO jaq jac jbI jbl jbn jba jaa x1 x2 jaR jbs jbt jbo jbp jbk jbj jbf jbq jbE jgP jbi jdB jbs cyI jci jbt cyI jcj a3 cyJ n3 f3)) hP hD [0, 1, 2, 3] [4] [1, 2, 3, 4, 0] hCc rfl (by decide +kernel) (by decide +kernel) (by decide +kernel) rfl hk1 hFc hP1 hD1
    generalize H1 = H at hP hS hc9 ⊢
    rcases hw with ⟨rfl, hw⟩ | ⟨rfl, hw⟩
    · refine vx_catch (own := RL) (name := "java/util/NoSuchElementException") hown [] ⟨0, 10, 13, 31⟩ [⟨0, 10, 17, 13⟩] (hTb.trans rfl) (fun z hz => nomatch hz) (by decide) (by decide) (hts _ qZA) (va_Nw.use rfl (hY.2.2.2.1.2 _ (List.mem_of_getElem? (i := 1) rfl))) hc9 hv9 hcl9 ?_
      refine lv_astore (lv' := [(4, .ref qx9), (0, .ref a0), (1, .int p1), (2, .int p2), (3, .ref a3)]) hx hb (qaa qmz 9 rfl) hl (by decide) rfl (fun ls hl => ?_)
      refine lv_iconst (v := 1) hx hb (qaa qmz 10 rfl) (by decide) ?_
      exact (W.widen (k := 2) (n := 12) (nbq rfl) (nbq rfl) (W.iret (v := 1) hx hb hr (fun t ht hW => ⟨⟨1, (x1, x2, f3), rfl, hw, by rw [ht]; exact hP, va_K.moved hW.alike hK, hD⟩, hS.F ht⟩) hS.2.2 (qaa qmz 11 rfl)))
    · refine vx_catch (own := RL) (name := "java/lang/IllegalArgumentException") hown [⟨0, 10, 13, 31⟩] ⟨0, 10, 17, 13⟩ [] (hTb.trans rfl) (fun z hz => by rw [List.mem_singleton.mp hz]; exact Or.inr ⟨by decide, _, (hts _ qZA), hY.2.2.2.2.2⟩) (by decide) (by decide) (hts _ qasc) (va_Nw.use rfl (hY.2.2.2.1.2 _ (List.mem_of_getElem? (i := 0) rfl))) hc9 hv9 hcl9 ?_
      refine lv_astore (lv' := [(4, .ref qx9), (0, .ref a0), (1, .int p1), (2, .int p2), (3, .ref a3)]) hx hb (qaa qmz 12 rfl) hl (by decide) rfl (fun ls hl => ?_)
      refine lv_iconst (v := 2) hx hb (qaa qmz 13 rfl) (by decide) ?_
      exact (W.widen (k := 2) (n := 12) (nbq rfl) (nbq rfl) (W.iret (v := 2) hx hb hr (fun t ht hW => ⟨⟨2, (x1, x2, f3), rfl, hw, by rw [ht]; exact hP, va_K.moved hW.alike hK, hD⟩, hS.F ht⟩) hS.2.2 (qaa qmz 14 rfl)))
  obtain ⟨x1, x2⟩ := u
  obtain ⟨hP1, hK1, hD1⟩ := hB
  rw [ht] at hP1
  obtain ⟨hP, hD⟩ := va_join (wr := [(a3, .inl (cyJ, n3, .inr (.inl f3)))]) (w1 := (qkB a0 jaK jaR ja1 jcp jbc jbV ja3 jbH ja2 jbO jaq jac jbI jbl jbn jba jaa x1 x2 jaR jbs jbt jbo jbp jbk jbj jbf jbq jbE jgP jbi jdB jbs cyI jci jbt cyI jcj)) hP hD [0, 1, 2, 3] [4] rfl rfl (by decide) (by decide) hk1 hFc hP1 hD1
  have hP : va_P (dC, dI) vwCl (qM5 a0 jaK jaR ja1 jcp jbc jbV ja3 jbH ja2 jbO jaq jac jbI jbl jbn jba jaa x1 x2 jaR jbs jbt jbo jbp jbk jbj jbf jbq jbE jgP jbi jdB jbs cyI jci jbt cyI jcj a3 cyJ n3 f3) H1 := hP.sub [1, 2, 3, 4, 0] rfl
  have hD : va_D A (qM5 a0 jaK jaR ja1 jcp jbc jbV ja3 jbH ja2 jbO jaq jac jbI jbl jbn jba jaa x1 x2 jaR jbs jbt jbo jbp jbk jbj jbf jbq jbE jgP jbi jdB jbs cyI jci jbt cyI jcj a3 cyJ n3 f3) := hD.sub [1, 2, 3, 4, 0] (by decide) rfl
  generalize H1 = H at hP hS ⊢
  refine lv_i2l (v := r3.toInt64) hx hb (qaa qmz 6 rfl) rfl ?_
  refine lv_topl (fun x4 ex4 => ?_)
  have hw := hw x4 ex4
  obtain ⟨hi9, hw⟩ := hw
  refine va_last hx hb hK hP hD hS 4 2 rfl rfl hi9 (qaa qmz 7 rfl) (fun H locs hP hD hS => ?_)
  obtain ⟨f5, ef5⟩ : ∃ y : Nat → Int64, y = vp_updL f3 (0 : Int32).toNatClampNeg x4 := ⟨_, rfl⟩
  have hw := hw f5 ef5
  have hP : va_P (dC, dI) vwCl (qM5 a0 jaK jaR ja1 jcp jbc jbV ja3 jbH ja2 jbO jaq jac jbI jbl jbn jba jaa x1 x2 jaR jbs jbt jbo jbp jbk jbj jbf jbq jbE jgP jbi jdB jbs cyI jci jbt cyI jcj a3 cyJ n3 f5) H := by rw [ef5]; exact hP
  have hD : va_D A (qM5 a0 jaK jaR ja1 jcp jbc jbV ja3 jbH ja2 jbO jaq jac jbI jbl jbn jba jaa x1 x2 jaR jbs jbt jbo jbp jbk jbj jbf jbq jbE jgP jbi jdB jbs cyI jci jbt cyI jcj a3 cyJ n3 f5) := by rw [ef5]; exact hD
  refine lv_goto (tgt := 21) hx hb (qaa qmz 8 rfl) (by decide) ?_
  refine lv_iconst (v := 0) hx hb (qaa qmz 15 rfl) (by decide) ?_
  exact (W.widen (k := 2) (n := 12) (nbq rfl) (nbq rfl) (W.iret (v := 0) hx hb hr (fun t ht hW => ⟨⟨0, (x1, x2, f5), rfl, hw, by rw [ht]; exact hP, va_K.moved hW.alike hK, hD⟩, hS.F ht⟩) hS.2.2 (qaa qaHS 0 rfl)))
theorem qape : ∀ w ∈ u_ws RX6 TX6 3, w ∈ wsX6_wayOver := uiM qRV euX6 (by decide +kernel)
theorem qauw : (.fieldLink RX6 9 "MarchHares$Ring" "least" "[I" : Cond) ∈ wsX6_wayOver := qRV 339 (by decide +kernel)
set_option maxHeartbeats 4000000 in
set_option maxRecDepth 100000 in
theorem qagP (l : Launch) (dC : Nat → ClassId) (dI : Nat → Nat → Nat) (cyB cyI cyJ cyP : ClassId) (a0 a1 jj5 jj6 jjR sz : Nat) (jmX jjf jlD jlE jmi jk8 jlX jlF jnY jlY jlf jlG : Value) (jkM jkN jkR : NI) (p2 p3 p4 : Int32) {Q : Int32 → Prop} (hw : qNR jkM jkN jkR p2 p3 p4 Q) : Met l yX6_wayOver wsX6_wayOver ({ frames := 2, cells := 0, slots := 0, locals := 54 }) (va_Pc [.ref a0, .ref a1, .int p2, .int p3, .int p4] (cPc (dC, dI) (kT cyB cyI cyJ cyP) (q1r a0 jjR jmX jjf a1 jj5 jj6 jlD jlE jmi jk8 jlX jlF jnY jlY jlf jlG jj5 cyI jkM jj6 cyI jkN jjR cyI jkR) sz)) (va_Qi (fun (r : Int32) (_ : Unit) => Q r ) (cB (dC, dI) (kT cyB cyI cyJ cyP) (va_A (q1r a0 jjR jmX jjf a1 jj5 jj6 jlD jlE jmi jk8 jlX jlF jnY jlY jlf jlG jj5 cyI jkM jj6 cyI jkN jjR cyI jkR) sz) (fun u : Unit => ((q1r a0 jjR jmX jjf a1 jj5 jj6 jlD jlE jmi jk8 jlX jlF jnY jlY jlf jlG jj5 cyI jkM jj6 cyI jkN jjR cyI jkR) : va_W))) (va_A (q1r a0 jjR jmX jjf a1 jj5 jj6 jlD jlE jmi jk8 jlX jlF jnY jlY jlf jlG jj5 cyI jkM jj6 cyI jkN jjR cyI jkR) sz)) 0 0 (va_A (q1r a0 jjR jmX jjf a1 jj5 jj6 jlD jlE jmi jk8 jlX jlF jnY jlY jlf jlG jj5 cyI jkM jj6 cyI jkN jjR cyI jkR) sz) := by
  refine Met.ofW (cc := cX6_wayOver) (maxL := 6) (ret := (some .int)) (by decide) rfl ?_
  intro p e s m args below meth c s₁ B hml hv
  obtain ⟨rfl, hsz, hP, hK, hD0, hNw⟩ := hv
  have hx := B.exec
  have hb := B.bytes
  have hr := B.returns
  have hts := atoms_spec (ws := wsX6_wayOver) B.pre
  have hown : s.vm.findClass RX6 = some m.cls := findClass_of_methodNamed B.named
  have hlocks := B.notSynchronized
  subst hsz
  have hD := hD0.self (sz := s.heap.size)
  generalize hAe : va_A (q1r a0 jjR jmX jjf a1 jj5 jj6 jlD jlE jmi jk8 jlX jlF jnY jlY jlf jlG jj5 cyI jkM jj6 cyI jkN jjR cyI jkR) s.heap.size = A at hD ⊢
  have hA : ∀ q : Nat, s.heap.size ≤ q → A q := fun q h => by rw [← hAe]; exact Or.inr h
  have hS : va_S A s.heap s.heap [] := va_S.rf
  have hP : va_P (dC, dI) vwCl (q1r a0 jjR jmX jjf a1 jj5 jj6 jlD jlE jmi jk8 jlX jlF jnY jlY jlf jlG jj5 cyI jkM jj6 cyI jkN jjR cyI jkR) s.heap := hP
  have hl := lv_entry ([.ref a0, .ref a1, .int p2, .int p3, .int p4]) (n := 6) (nbq rfl)
  rw [lg_entry_eq]
  generalize (lg_sl ([.ref a0, .ref a1, .int p2, .int p3, .int p4]) ++ List.replicate (6 - (lg_sl ([.ref a0, .ref a1, .int p2, .int p3, .int p4])).length) Slot.unset).toArray = ls at hl ⊢
  have hl : lv_has ls 6 [(0, .ref a0), (1, .ref a1), (2, .int p2), (3, .int p3), (4, .int p4)] := hl
  have C0 : cfx p s m _ meth c cX6_wayOver (some .int) wsX6_wayOver RX6 6 A (dC, dI) (kT cyB cyI cyJ cyP) := ⟨hx, hb, hr, hts, hown, hlocks, hml, hA, hK, hNw⟩
  clear hAe
  obtain ⟨H, hH⟩ : ∃ H, H = s.heap := ⟨_, rfl⟩
  rw [← hH] at hP ⊢
  have hS : va_S A s.heap H [] := by rw [hH]; exact va_S.rf
  have hS := hS
  refine lv_iload_n hx hb (qaa qhT 0 rfl) rfl (lv_at hl 2 rfl) ?_
  refine lv_iconst (v := 1) hx hb (qaa qhT 1 rfl) (by decide) ?_
  refine lv_iload hx hb (qaa qhT 2 rfl) (lv_at hl 4 rfl) ?_
  refine lv_iconst (v := 1) hx hb (qaa qhT 3 rfl) (by decide) ?_
  refine lv_isub hx hb (qaa qhT 4 rfl) ?_
  refine lv_ishl hx hb (qaa qhT 5 rfl) ?_
  refine lv_iconst (v := (-1)) hx hb (qaa qhT 6 rfl) (by decide) ?_
  refine lv_ixor hx hb (qaa qhT 7 rfl) ?_
  refine lv_iand hx hb (qaa qhT 8 rfl) ?_
  refine lv_topi (fun x1 ex1 => ?_)
  have hw := hw x1 ex1
  refine lv_istore (lv' := [(5, .int x1), (0, .ref a0), (1, .ref a1), (2, .int p2), (3, .int p3), (4, .int p4)]) hx hb (qaa qhT 9 rfl) hl (by decide) rfl (fun ls hl => ?_)
  refine lv_aload_n hx hb (qaa qhT 10 rfl) rfl (lv_at hl 2 rfl) ?_
  refine lv_iload_n hx hb (qaa qhT 11 rfl) rfl (lv_at hl 4 rfl) ?_
  refine lv_iload hx hb (qaa qhT 12 rfl) (lv_at hl 5 rfl) ?_
  obtain ⟨hCc, hPc, hDc, hFc⟩ := qac (ws' := (qa36 a1 jj5 jj6 jlD jlE jmi jk8 jlX jlF jnY jlY jlf jlG jj5 cyI jkM jj6 cyI jkN)) hP hD hS hA [1, 2, 3] (by decide +kernel) rfl
  refine va_calli (va_runV (As := [.int p3, .int p4]) (rest := []) ⟨hx, hb, hml, hown, hts⟩ (qBF l dC dI cyB cyI cyJ cyP a1 jj5 jj6 H.size (jlD) (jlE) (jmi) (jk8) (jlX) (jlF) (jnY) (jlY) (jlf) (jlG) jkM jkN p3 p4 hw) (cwV 2 hts gX6_wayOver_X2_apart rfl rfl rfl (by decide +kernel) ⟨nbq rfl, nbq rfl⟩) ⟨qab, va_recv (q := (RX2, TX2, 12)) hK hPc (ci := 2) (q0 := 0) rfl rfl, qae hPc hK hDc hNw⟩ rfl rfl hl.1 rfl (lv_room (nbq rfl)) (qaa qhT 13 rfl) ⟨nbq rfl, nbq rfl⟩) hS (fun q _ h => hFc q h) hFc (fun r2 u t H1 locs ht hvm hw hB hz1 hk1 hS => ?_)
  obtain ⟨hP1, hK1, hD1⟩ := hB
  rw [ht] at hP1
  obtain ⟨hP, hD⟩ := qad (wr := (qa4l a0 jjR jmX jjf jjR cyI jkR)) (w1 := (qa36 a1 jj5 jj6 jlD jlE jmi jk8 jlX jlF jnY jlY jlf jlG jj5 cyI jkM jj6 cyI jkN)) (wn := (q1r a0 jjR jmX jjf a1 jj5 jj6 jlD jlE jmi jk8 jlX jlF jnY jlY jlf jlG jj5 cyI jkM jj6 cyI jkN jjR cyI jkR)) hP hD [1, 2, 3] [0, 4] [0, 2, 3, 4, 1] hCc rfl (by decide +kernel) (by decide +kernel) (by decide +kernel) rfl hk1 hFc hP1 hD1
  generalize H1 = H at hP hS ⊢
  refine lv_aload_n hx hb (qaa qhT 14 rfl) rfl (lv_at hl 1 rfl) ?_
  refine va_get (D := (dC, dI)) (ci := 6) (v := .ref jjR) (C := RX6) (T := TX6) (N := 3) hx hb hts qape hown hK hP 0 rfl rfl 0 (by decide) (hts _ qauw) (fun _ h9 => h9) rfl (qaa qhT 15 rfl) ?_
  refine lv_iload hx hb (qaa qsy 0 rfl) (lv_at hl 0 rfl) ?_
  refine lv_bipush (v := 8) hx hb (qaa qsy 1 rfl) (by decide) ?_
  refine lv_imul hx hb (qaa qsy 2 rfl) ?_
  refine lv_topi (fun x3 ex3 => ?_)
  have hw := hw x3 ex3
  refine lv_iload hx hb (qaa qsy 3 rfl) (lv_at hl 5 rfl) ?_
  refine lv_iadd hx hb (qaa qsy 4 rfl) ?_
  refine lv_topi (fun x4 ex4 => ?_)
  have hw := hw x4 ex4
  obtain ⟨hi9, hw⟩ := hw
  refine va_iald hx hb hK hP 4 1 rfl rfl hi9 (qaa qsy 5 rfl) ?_
  refine lv_topi (fun x5 ex5 => ?_)
  have hw := hw x5 ex5
  refine lv_iadd hx hb (qaa qsy 6 rfl) ?_
  exact ((W.iret (v := (r2 + x5)) hx hb hr (fun t ht hW => ⟨⟨(r2 + x5), (), rfl, hw, by rw [ht]; exact hP, va_K.moved hW.alike hK, hD⟩, hS.F ht⟩) hS.2.2 (qaa qsy 7 rfl)))
theorem qalb : ∀ w ∈ u_ws RX2 TX2 12, w ∈ wsX6_leastWay := uiM qoX qLp (by decide +kernel)
theorem qae1 : (.fieldLink RX6 22 "MarchHares$Down" "forms" "I" : Cond) ∈ wsX6_leastWay := qoX 3265 (by decide +kernel)
theorem q0A : (.initialized RX10 : Cond) ∈ wsX6_leastWay := qoX 2 (by decide +kernel)
theorem q9x : (.initialized "java/lang/Math" : Cond) ∈ wsX6_leastWay := qoX 651 (by decide +kernel)
theorem qadW : (.constant RX6 48 (2147483647) : Cond) ∈ wsX6_leastWay := qoX 3274 (by decide +kernel)
theorem qaf9 : (.methodLink RX6 53 Lib.Math.min.name : Cond) ∈ wsX6_leastWay := qoX 3275 (by decide +kernel)
theorem q6Z : (.code Lib.Math.min.name Lib.Math.min.code 2 (some .int) : Cond) ∈ wsX6_leastWay := qoX 652 (by decide +kernel)
theorem q6e : (.static Lib.Math.min.name : Cond) ∈ wsX6_leastWay := qoX 650 (by decide +kernel)
theorem qRz : (.static yX10_holds : Cond) ∈ wsX6_leastWay := qoX 2052 (by decide +kernel)
set_option maxHeartbeats 4000000 in
set_option maxRecDepth 100000 in
theorem qU5 {p : Program} {l : Launch} {e : Env} {s : State} {m : MethodId} {args : Array Value} {below : List Frame} {meth : Method} {c : Code} {A : Nat → Prop} (dC : Nat → ClassId) (dI : Nat → Nat → Nat) (cyB cyI cyJ cyP : ClassId) (a0 a1 jj5 jj6 jjR : Nat) (jmX jjf jlD jlE jmi jk8 jlX jlF jlY jlf jlG : Value) (jks : Int32) (jkM jkN jkR : NI) (Q : Int32 → Prop) (K18 : Int32 → Int32 → Int32 → Int32 → Prop) (hK18 : ∀ (H : Heap) (locs : List Loc) (ls : Array Slot) (l2 l3 l4 l5 : Int32), va_P (dC, dI) vwCl (qin a0 jjR jmX jjf a1 jj5 jj6 jlD jlE jmi jk8 jlX jlF jks jlY jlf jlG jj5 cyI jkM jj6 cyI jkN jjR cyI jkR) H → va_D A (qin a0 jjR jmX jjf a1 jj5 jj6 jlD jlE jmi jk8 jlX jlF jks jlY jlf jlG jj5 cyI jkM jj6 cyI jkN jjR cyI jkR) → va_S A s.heap H locs → lv_has ls 6 [(0, .ref a0), (1, .ref a1), (2, .int l2), (3, .int l3), (4, .int l4), (5, .int l5)] → K18 l2 l3 l4 l5 → W p l e (headSpec wsX6_leastWay ({ frames := 3, cells := 0, slots := 0, locals := 79 })).room s m args below meth c H locs 0 0 (MQ below (va_Qi (fun (r : Int32) (_ : Unit) => Q r ) (cB (dC, dI) (kT cyB cyI cyJ cyP) A (fun u : Unit => ((qin a0 jjR jmX jjf a1 jj5 jj6 jlD jlE jmi jk8 jlX jlF jks jlY jlf jlG jj5 cyI jkM jj6 cyI jkN jjR cyI jkR) : va_W))) A) args s 0 0 A) (F0 m 18 ls [])) (C0 : cfx p s m args meth c cX6_leastWay (some .int) wsX6_leastWay RX6 6 A (dC, dI) (kT cyB cyI cyJ cyP)) : ∀ (H : Heap) (locs : List Loc) (ls : Array Slot) (l2 l3 l4 l5 : Int32), va_P (dC, dI) vwCl (qin a0 jjR jmX jjf a1 jj5 jj6 jlD jlE jmi jk8 jlX jlF jks jlY jlf jlG jj5 cyI jkM jj6 cyI jkN jjR cyI jkR) H → va_D A (qin a0 jjR jmX jjf a1 jj5 jj6 jlD jlE jmi jk8 jlX jlF jks jlY jlf jlG jj5 cyI jkM jj6 cyI jkN jjR cyI jkR) → va_S A s.heap H locs → lv_has ls 6 [(0, .ref a0), (1, .ref a1), (2, .int l2), (3, .int l3), (4, .int l4), (5, .int l5)] → qKf jks jkM jkN jkR Q K18 l2 l3 l4 l5 → W p l e (headSpec wsX6_leastWay ({ frames := 3, cells := 0, slots := 0, locals := 79 })).room s m args below meth c H locs 0 0 (MQ below (va_Qi (fun (r : Int32) (_ : Unit) => Q r ) (cB (dC, dI) (kT cyB cyI cyJ cyP) A (fun u : Unit => ((qin a0 jjR jmX jjf a1 jj5 jj6 jlD jlE jmi jk8 jlX jlF jks jlY jlf jlG jj5 cyI jkM jj6 cyI jkN jjR cyI jkR) : va_W))) A) args s 0 0 A) (F0 m 54 ls []) := by
  obtain ⟨hx, hb, hr, hts, hown, hlocks, hml, hA, hK, hNw⟩ := id C0
  intro H locs ls l2 l3 l4 l5 hP hD hS hl hw
  obtain ⟨x8, ex8⟩ : ∃ y : Int32, y = l5 + 1 := ⟨_, rfl⟩
  have hw := hw x8 ex8
  refine lv_iinc (v := x8) (lv' := [(5, .int x8), (0, .ref a0), (1, .ref a1), (2, .int l2), (3, .int l3), (4, .int l4)]) hx hb (qaa qd4 14 rfl) hl (k := 5) rfl (by rw [ex8]; rfl) (by decide) rfl (fun ls hl => ?_)
  refine lv_goto (tgt := 18) hx hb (qaa qd4 15 rfl) (by decide) ?_
  exact hK18 _ _ _ l2 l3 l4 x8 hP hD hS (lv_sub hl [1, 2, 3, 4, 5, 0] rfl) hw
set_option maxHeartbeats 4000000 in
set_option maxRecDepth 100000 in
theorem qajP {p : Program} {l : Launch} {e : Env} {s : State} {m : MethodId} {args : Array Value} {below : List Frame} {meth : Method} {c : Code} {A : Nat → Prop} (dC : Nat → ClassId) (dI : Nat → Nat → Nat) (cyB cyI cyJ cyP : ClassId) (a0 a1 jj5 jj6 jjR : Nat) (jmX jjf jlD jlE jmi jk8 jlX jlF jlY jlf jlG : Value) (jks : Int32) (jkM jkN jkR : NI) (Q : Int32 → Prop) (C0 : cfx p s m args meth c cX6_leastWay (some .int) wsX6_leastWay RX6 6 A (dC, dI) (kT cyB cyI cyJ cyP)) : ∀ (n : Nat) (H : Heap) (locs : List Loc) (ls : Array Slot) (l2 l3 l4 l5 : Int32), va_P (dC, dI) vwCl (qin a0 jjR jmX jjf a1 jj5 jj6 jlD jlE jmi jk8 jlX jlF jks jlY jlf jlG jj5 cyI jkM jj6 cyI jkN jjR cyI jkR) H → va_D A (qin a0 jjR jmX jjf a1 jj5 jj6 jlD jlE jmi jk8 jlX jlF jks jlY jlf jlG jj5 cyI jkM jj6 cyI jkN jjR cyI jkR) → va_S A s.heap H locs → lv_has ls 6 [(0, .ref a0), (1, .ref a1), (2, .int l2), (3, .int l3), (4, .int l4), (5, .int l5)] → qs1 jks jkM jkN jkR Q n l2 l3 l4 l5 → W p l e (headSpec wsX6_leastWay ({ frames := 3, cells := 0, slots := 0, locals := 79 })).room s m args below meth c H locs 0 0 (MQ below (va_Qi (fun (r : Int32) (_ : Unit) => Q r ) (cB (dC, dI) (kT cyB cyI cyJ cyP) A (fun u : Unit => ((qin a0 jjR jmX jjf a1 jj5 jj6 jlD jlE jmi jk8 jlX jlF jks jlY jlf jlG jj5 cyI jkM jj6 cyI jkN jjR cyI jkR) : va_W))) A) args s 0 0 A) (F0 m 18 ls []) := by
  obtain ⟨hx, hb, hr, hts, hown, hlocks, hml, hA, hK, hNw⟩ := id C0
  intro n
  induction n with
  | zero => intro H locs ls l2 l3 l4 l5 hP hD hS hl hw; exact False.elim hw
  | succ n ih =>
    intro H locs ls l2 l3 l4 l5 hP hD hS hl hw
    refine lv_iload hx hb (qaa qfb 11 rfl) (lv_at hl 5 rfl) ?_
    refine lv_aload_n hx hb (qaa qfb 12 rfl) rfl (lv_at hl 1 rfl) ?_
    refine va_get (D := (dC, dI)) (ci := 2) (v := .int jks) (C := RX2) (T := TX2) (N := 12) hx hb hts qalb hown hK hP 1 rfl rfl 8 (by decide) (hts _ qae1) (fun _ h9 => h9) rfl (qaa qfb 13 rfl) ?_
    refine lv_icmp_ge (tgt := 60) hx hb (qaa qfb 14 rfl) (by decide) (fun c3 => ?_) (fun c3 => ?_)
    · have hw := hw.1 c3
      refine lv_iload hx hb (qaa qVo 0 rfl) (lv_at hl 4 rfl) ?_
      exact ((W.iret (v := l4) hx hb hr (fun t ht hW => ⟨⟨l4, (), rfl, hw, by rw [ht]; exact hP, va_K.moved hW.alike hK, hD⟩, hS.F ht⟩) hS.2.2 (qaa qVo 1 rfl)))
    · have hw := hw.2 c3
      refine lv_iload_n hx hb (qaa qfb 15 rfl) rfl (lv_at hl 2 rfl) ?_
      refine lv_iload hx hb (qaa qd4 0 rfl) (lv_at hl 5 rfl) ?_
      refine lv_iconst (v := 1) hx hb (qaa qd4 1 rfl) (by decide) ?_
      refine lv_isub hx hb (qaa qd4 2 rfl) ?_
      obtain ⟨hCc, hPc, hDc, hFc⟩ := qac (ws' := []) hP hD hS hA [] (by decide +kernel) rfl
      refine va_calli (va_runSN (As := [.int l2, .int (l5 - 1)]) (rest := []) ⟨hx, hb, hml, hown, hts⟩ (qnv l dC dI cyB cyI cyJ cyP H.size l2 (l5 - 1) hw) ⟨(va_cnB 2 hts gX6_leastWay_X10_holds_n38 rfl rfl rfl (qbeG hNw) (hts _ q0A) (by decide +kernel) ⟨nbq rfl, nbq rfl⟩), (hts _ qRz), trivial⟩ ⟨qab, qae hPc hK hDc hNw⟩ rfl rfl hl.1 rfl (lv_room (nbq rfl)) (qaa qd4 3 rfl) ⟨nbq rfl, nbq rfl⟩) hS (fun q _ h => hFc q h) hFc (fun r4 u t H1 locs ht hvm hw hB hz1 hk1 hS => ?_)
      obtain ⟨hP1, hK1, hD1⟩ := hB
      rw [ht] at hP1
      obtain ⟨hP, hD⟩ := qah (wr := (qin a0 jjR jmX jjf a1 jj5 jj6 jlD jlE jmi jk8 jlX jlF jks jlY jlf jlG jj5 cyI jkM jj6 cyI jkN jjR cyI jkR)) (w1 := []) (wn := (qin a0 jjR jmX jjf a1 jj5 jj6 jlD jlE jmi jk8 jlX jlF jks jlY jlf jlG jj5 cyI jkM jj6 cyI jkN jjR cyI jkR)) hP hD [] [0, 1, 2, 3, 4] hCc rfl (by decide +kernel) (by decide +kernel) rfl hk1 hFc hP1 hD1
      generalize H1 = H at hP hS ⊢
      refine lv_if_eq (tgt := 54) hx hb (qaa qd4 4 rfl) (by decide) (fun c5 => ?_) (fun c5 => ?_)
      · have hw := hw.1 c5
        exact qU5 dC dI cyB cyI cyJ cyP a0 a1 jj5 jj6 jjR jmX jjf jlD jlE jmi jk8 jlX jlF jlY jlf jlG jks jkM jkN jkR Q (qs1 jks jkM jkN jkR Q n) ih C0 _ _ _ l2 l3 l4 l5 hP hD hS (lv_sub hl [0, 1, 2, 3, 4, 5] rfl) hw
      · have hw := hw.2 c5
        refine lv_iload hx hb (qaa qd4 5 rfl) (lv_at hl 4 rfl) ?_
        refine lv_aload_n hx hb (qaa qd4 6 rfl) rfl (lv_at hl 0 rfl) ?_
        refine lv_aload_n hx hb (qaa qd4 7 rfl) rfl (lv_at hl 1 rfl) ?_
        refine lv_iload_n hx hb (qaa qd4 8 rfl) rfl (lv_at hl 2 rfl) ?_
        refine lv_iload_n hx hb (qaa qd4 9 rfl) rfl (lv_at hl 3 rfl) ?_
        refine lv_iload hx hb (qaa qd4 10 rfl) (lv_at hl 5 rfl) ?_
        obtain ⟨hCc, hPc, hDc, hFc⟩ := qac (ws' := (qin a0 jjR jmX jjf a1 jj5 jj6 jlD jlE jmi jk8 jlX jlF jks jlY jlf jlG jj5 cyI jkM jj6 cyI jkN jjR cyI jkR)) hP hD hS hA [0, 1, 2, 3, 4] (by decide +kernel) rfl
        refine va_calli (va_runV (As := [.ref a1, .int l2, .int l3, .int l5]) (rest := [.int l4]) ⟨hx, hb, hml, hown, hts⟩ (qagP l dC dI cyB cyI cyJ cyP a0 a1 jj5 jj6 jjR H.size (jmX) (jjf) (jlD) (jlE) (jmi) (jk8) (jlX) (jlF) (.int jks) (jlY) (jlf) (jlG) jkM jkN jkR l2 l3 l5 hw) (cwV 4 hts gX6_leastWay_X6_wayOver rfl rfl rfl (by decide +kernel) ⟨nbq rfl, nbq rfl⟩) ⟨qab, va_recv (q := (RX6, TX6, 3)) hK hPc (ci := 6) (q0 := 0) rfl rfl, qae hPc hK hDc hNw⟩ rfl rfl hl.1 rfl (lv_room (nbq rfl)) (qaa qd4 11 rfl) ⟨nbq rfl, nbq rfl⟩) hS (fun q _ h => hFc q h) hFc (fun r6 u t H1 locs ht hvm hw hB hz1 hk1 hS => ?_)
        obtain ⟨hP1, hK1, hD1⟩ := hB
        rw [ht] at hP1
        obtain ⟨hP, hD⟩ := qah (wr := []) (w1 := (qin a0 jjR jmX jjf a1 jj5 jj6 jlD jlE jmi jk8 jlX jlF jks jlY jlf jlG jj5 cyI jkM jj6 cyI jkN jjR cyI jkR)) (wn := (qin a0 jjR jmX jjf a1 jj5 jj6 jlD jlE jmi jk8 jlX jlF jks jlY jlf jlG jj5 cyI jkM jj6 cyI jkN jjR cyI jkR)) hP hD [0, 1, 2, 3, 4] [] hCc rfl (by decide +kernel) (by decide +kernel) rfl hk1 hFc hP1 hD1
        generalize H1 = H at hP hS ⊢
        refine va_mmin hx hb (by rw [hml]; exact hl.1.symm) hown (hts _ qaf9) (hts _ q6e) (hts _ q9x) (hts _ q6Z) (nbq rfl) (nbq rfl) (nbq rfl) (nbq rfl) (qaa qd4 12 rfl) ?_
        refine lv_topi (fun x7 ex7 => ?_)
        have hw := hw x7 ex7
        refine lv_istore (lv' := [(4, .int x7), (0, .ref a0), (1, .ref a1), (2, .int l2), (3, .int l3), (5, .int l5)]) hx hb (qaa qd4 13 rfl) hl (by decide) rfl (fun ls hl => ?_)
        exact qU5 dC dI cyB cyI cyJ cyP a0 a1 jj5 jj6 jjR jmX jjf jlD jlE jmi jk8 jlX jlF jlY jlf jlG jks jkM jkN jkR Q (qs1 jks jkM jkN jkR Q n) ih C0 _ _ _ l2 l3 x7 l5 hP hD hS (lv_sub hl [1, 2, 3, 4, 0, 5] rfl) hw
set_option maxHeartbeats 4000000 in
set_option maxRecDepth 100000 in
theorem q8m (l : Launch) (dC : Nat → ClassId) (dI : Nat → Nat → Nat) (cyB cyI cyJ cyP : ClassId) (a0 a1 jj5 jj6 jjR sz : Nat) (jmX jjf jlD jlE jmi jk8 jlX jlF jlY jlf jlG : Value) (jks : Int32) (jkM jkN jkR : NI) (p2 p3 : Int32) {Q : Int32 → Prop} (hw : qK3 jks jkM jkN jkR p2 p3 Q) : Met l yX6_leastWay wsX6_leastWay ({ frames := 3, cells := 0, slots := 0, locals := 79 }) (va_Pc [.ref a0, .ref a1, .int p2, .int p3] (cPc (dC, dI) (kT cyB cyI cyJ cyP) (qin a0 jjR jmX jjf a1 jj5 jj6 jlD jlE jmi jk8 jlX jlF jks jlY jlf jlG jj5 cyI jkM jj6 cyI jkN jjR cyI jkR) sz)) (va_Qi (fun (r : Int32) (_ : Unit) => Q r ) (cB (dC, dI) (kT cyB cyI cyJ cyP) (va_A (qin a0 jjR jmX jjf a1 jj5 jj6 jlD jlE jmi jk8 jlX jlF jks jlY jlf jlG jj5 cyI jkM jj6 cyI jkN jjR cyI jkR) sz) (fun u : Unit => ((qin a0 jjR jmX jjf a1 jj5 jj6 jlD jlE jmi jk8 jlX jlF jks jlY jlf jlG jj5 cyI jkM jj6 cyI jkN jjR cyI jkR) : va_W))) (va_A (qin a0 jjR jmX jjf a1 jj5 jj6 jlD jlE jmi jk8 jlX jlF jks jlY jlf jlG jj5 cyI jkM jj6 cyI jkN jjR cyI jkR) sz)) 0 0 (va_A (qin a0 jjR jmX jjf a1 jj5 jj6 jlD jlE jmi jk8 jlX jlF jks jlY jlf jlG jj5 cyI jkM jj6 cyI jkN jjR cyI jkR) sz) := by
  refine Met.ofW (cc := cX6_leastWay) (maxL := 6) (ret := (some .int)) (by decide) rfl ?_
  intro p e s m args below meth c s₁ B hml hv
  obtain ⟨rfl, hsz, hP, hK, hD0, hNw⟩ := hv
  have hx := B.exec
  have hb := B.bytes
  have hr := B.returns
  have hts := atoms_spec (ws := wsX6_leastWay) B.pre
  have hown : s.vm.findClass RX6 = some m.cls := findClass_of_methodNamed B.named
  have hlocks := B.notSynchronized
  subst hsz
  have hD := hD0.self (sz := s.heap.size)
  generalize hAe : va_A (qin a0 jjR jmX jjf a1 jj5 jj6 jlD jlE jmi jk8 jlX jlF jks jlY jlf jlG jj5 cyI jkM jj6 cyI jkN jjR cyI jkR) s.heap.size = A at hD ⊢
  have hA : ∀ q : Nat, s.heap.size ≤ q → A q := fun q h => by rw [← hAe]; exact Or.inr h
  have hS : va_S A s.heap s.heap [] := va_S.rf
  have hP : va_P (dC, dI) vwCl (qin a0 jjR jmX jjf a1 jj5 jj6 jlD jlE jmi jk8 jlX jlF jks jlY jlf jlG jj5 cyI jkM jj6 cyI jkN jjR cyI jkR) s.heap := hP
  have hl := lv_entry ([.ref a0, .ref a1, .int p2, .int p3]) (n := 6) (nbq rfl)
  rw [lg_entry_eq]
  generalize (lg_sl ([.ref a0, .ref a1, .int p2, .int p3]) ++ List.replicate (6 - (lg_sl ([.ref a0, .ref a1, .int p2, .int p3])).length) Slot.unset).toArray = ls at hl ⊢
  have hl : lv_has ls 6 [(0, .ref a0), (1, .ref a1), (2, .int p2), (3, .int p3)] := hl
  have C0 : cfx p s m _ meth c cX6_leastWay (some .int) wsX6_leastWay RX6 6 A (dC, dI) (kT cyB cyI cyJ cyP) := ⟨hx, hb, hr, hts, hown, hlocks, hml, hA, hK, hNw⟩
  clear hAe
  obtain ⟨H, hH⟩ : ∃ H, H = s.heap := ⟨_, rfl⟩
  rw [← hH] at hP ⊢
  have hS : va_S A s.heap H [] := by rw [hH]; exact va_S.rf
  have hS := hS
  refine lv_iload_n hx hb (qaa qfb 0 rfl) rfl (lv_at hl 2 rfl) ?_
  refine lv_if_ne (tgt := 11) hx hb (qaa qfb 1 rfl) (by decide) (fun c1 => ?_) (fun c1 => ?_)
  · have hw := hw.1 c1
    refine lv_ldc (v := 2147483647) hx hb hown (hts _ qadW) (qaa qfb 7 rfl) ?_
    refine lv_istore (lv' := [(4, .int 2147483647), (0, .ref a0), (1, .ref a1), (2, .int p2), (3, .int p3)]) hx hb (qaa qfb 8 rfl) hl (by decide) rfl (fun ls hl => ?_)
    refine lv_iconst (v := 1) hx hb (qaa qfb 9 rfl) (by decide) ?_
    refine lv_istore (lv' := [(5, .int 1), (4, .int 2147483647), (0, .ref a0), (1, .ref a1), (2, .int p2), (3, .int p3)]) hx hb (qaa qfb 10 rfl) hl (by decide) rfl (fun ls hl => ?_)
    obtain ⟨n9, hw⟩ := hw
    exact qajP dC dI cyB cyI cyJ cyP a0 a1 jj5 jj6 jjR jmX jjf jlD jlE jmi jk8 jlX jlF jlY jlf jlG jks jkM jkN jkR Q C0 n9 _ _ _ p2 p3 2147483647 1 hP hD hS (lv_sub hl [2, 3, 4, 5, 1, 0] rfl) hw
  · have hw := hw.2 c1
    refine lv_aload_n hx hb (qaa qfb 2 rfl) rfl (lv_at hl 1 rfl) ?_
    refine lv_iload_n hx hb (qaa qfb 3 rfl) rfl (lv_at hl 3 rfl) ?_
    refine lv_iconst (v := 0) hx hb (qaa qfb 4 rfl) (by decide) ?_
    obtain ⟨hCc, hPc, hDc, hFc⟩ := qac (ws' := (qa7u a1 jj5 jj6 jlD jlE jmi jk8 jlX jlF jks jlY jlf jlG jj5 cyI jkM jj6 cyI jkN)) hP hD hS hA [1, 2, 3] (by decide +kernel) rfl
    refine va_calli (va_runV (As := [.int p3, .int 0]) (rest := []) ⟨hx, hb, hml, hown, hts⟩ (qBF l dC dI cyB cyI cyJ cyP a1 jj5 jj6 H.size (jlD) (jlE) (jmi) (jk8) (jlX) (jlF) (.int jks) (jlY) (jlf) (jlG) jkM jkN p3 0 hw) (cwV 2 hts gX6_leastWay_X2_apart rfl rfl rfl (by decide +kernel) ⟨nbq rfl, nbq rfl⟩) ⟨qab, va_recv (q := (RX2, TX2, 12)) hK hPc (ci := 2) (q0 := 0) rfl rfl, qae hPc hK hDc hNw⟩ rfl rfl hl.1 rfl (lv_room (nbq rfl)) (qaa qfb 5 rfl) ⟨nbq rfl, nbq rfl⟩) hS (fun q _ h => hFc q h) hFc (fun r2 u t H1 locs ht hvm hw hB hz1 hk1 hS => ?_)
    obtain ⟨hP1, hK1, hD1⟩ := hB
    rw [ht] at hP1
    obtain ⟨hP, hD⟩ := qad (wr := (qa4l a0 jjR jmX jjf jjR cyI jkR)) (w1 := (qa7u a1 jj5 jj6 jlD jlE jmi jk8 jlX jlF jks jlY jlf jlG jj5 cyI jkM jj6 cyI jkN)) (wn := (qin a0 jjR jmX jjf a1 jj5 jj6 jlD jlE jmi jk8 jlX jlF jks jlY jlf jlG jj5 cyI jkM jj6 cyI jkN jjR cyI jkR)) hP hD [1, 2, 3] [0, 4] [0, 2, 3, 4, 1] hCc rfl (by decide +kernel) (by decide +kernel) (by decide +kernel) rfl hk1 hFc hP1 hD1
    generalize H1 = H at hP hS ⊢
    exact ((W.iret (v := r2) hx hb hr (fun t ht hW => ⟨⟨r2, (), rfl, hw, by rw [ht]; exact hP, va_K.moved hW.alike hK, hD⟩, hS.F ht⟩) hS.2.2 (qaa qfb 6 rfl)))
theorem qahX : ∀ w ∈ u_ws RX2 TX2 12, w ∈ wsX6_settleFor := uiM qtB qLp (by decide +kernel)
theorem qagl : ∀ w ∈ u_ws RX6 TX6 3, w ∈ wsX6_settleFor := uiM qtB euX6 (by decide +kernel)
theorem q8O : (.fieldLink RX6 22 "MarchHares$Down" "forms" "I" : Cond) ∈ wsX6_settleFor := qtB 3265 (by decide +kernel)
theorem qaej : (.fieldLink RX6 9 "MarchHares$Ring" "least" "[I" : Cond) ∈ wsX6_settleFor := qtB 339 (by decide +kernel)
theorem qW7 : (.initialized RX10 : Cond) ∈ wsX6_settleFor := qtB 2 (by decide +kernel)
theorem qRx : (.static yX10_holds : Cond) ∈ wsX6_settleFor := qtB 2052 (by decide +kernel)
set_option maxHeartbeats 4000000 in
set_option maxRecDepth 100000 in
theorem qRT {p : Program} {l : Launch} {e : Env} {s : State} {m : MethodId} {args : Array Value} {below : List Frame} {meth : Method} {c : Code} {A : Nat → Prop} (dC : Nat → ClassId) (dI : Nat → Nat → Nat) (cyB cyI cyJ cyP : ClassId) (a0 a1 jjR jj5 jj6 : Nat) (jmX jjf jlD jlE jmi jk8 jlX jlF jlY jlf jlG : Value) (jks : Int32) (jkM jkN : NI) (Q : NI → Prop) (K2 : NI → Int32 → Int32 → Prop) (hK2 : ∀ (H : Heap) (locs : List Loc) (ls : Array Slot) (jkR : NI) (l2 l3 : Int32), va_P (dC, dI) vwCl (qin a0 jjR jmX jjf a1 jj5 jj6 jlD jlE jmi jk8 jlX jlF jks jlY jlf jlG jj5 cyI jkM jj6 cyI jkN jjR cyI jkR) H → va_D A (qin a0 jjR jmX jjf a1 jj5 jj6 jlD jlE jmi jk8 jlX jlF jks jlY jlf jlG jj5 cyI jkM jj6 cyI jkN jjR cyI jkR) → va_S A s.heap H locs → lv_has ls 4 [(0, .ref a0), (1, .ref a1), (2, .int l2), (3, .int l3)] → K2 jkR l2 l3 → W p l e (headSpec wsX6_settleFor ({ frames := 4, cells := 0, slots := 0, locals := 104 })).room s m args below meth c H locs 0 0 (MQ below (va_Qv (fun (u : NI) => Q u) (cB (dC, dI) (kT cyB cyI cyJ cyP) A (fun u : NI => ((qin a0 jjR jmX jjf a1 jj5 jj6 jlD jlE jmi jk8 jlX jlF jks jlY jlf jlG jj5 cyI jkM jj6 cyI jkN jjR cyI u) : va_W))) A) args s 0 0 A) (F0 m 2 ls [])) (C0 : cfx p s m args meth c cX6_settleFor none wsX6_settleFor RX6 4 A (dC, dI) (kT cyB cyI cyJ cyP)) : ∀ (H : Heap) (locs : List Loc) (ls : Array Slot) (jkR : NI) (l2 l3 : Int32), va_P (dC, dI) vwCl (qin a0 jjR jmX jjf a1 jj5 jj6 jlD jlE jmi jk8 jlX jlF jks jlY jlf jlG jj5 cyI jkM jj6 cyI jkN jjR cyI jkR) H → va_D A (qin a0 jjR jmX jjf a1 jj5 jj6 jlD jlE jmi jk8 jlX jlF jks jlY jlf jlG jj5 cyI jkM jj6 cyI jkN jjR cyI jkR) → va_S A s.heap H locs → lv_has ls 4 [(0, .ref a0), (1, .ref a1), (2, .int l2), (3, .int l3)] → qHP jks jkM jkN Q K2 jkR l2 l3 → W p l e (headSpec wsX6_settleFor ({ frames := 4, cells := 0, slots := 0, locals := 104 })).room s m args below meth c H locs 0 0 (MQ below (va_Qv (fun (u : NI) => Q u) (cB (dC, dI) (kT cyB cyI cyJ cyP) A (fun u : NI => ((qin a0 jjR jmX jjf a1 jj5 jj6 jlD jlE jmi jk8 jlX jlF jks jlY jlf jlG jj5 cyI jkM jj6 cyI jkN jjR cyI u) : va_W))) A) args s 0 0 A) (F0 m 38 ls []) := by
  obtain ⟨hx, hb, hr, hts, hown, hlocks, hml, hA, hK, hNw⟩ := id C0
  intro H locs ls jkR l2 l3 hP hD hS hl hw
  obtain ⟨x8, ex8⟩ : ∃ y : Int32, y = l3 + 1 := ⟨_, rfl⟩
  have hw := hw x8 ex8
  refine lv_iinc (v := x8) (lv' := [(3, .int x8), (0, .ref a0), (1, .ref a1), (2, .int l2)]) hx hb (qaa qij 9 rfl) hl (k := 3) rfl (by rw [ex8]; rfl) (by decide) rfl (fun ls hl => ?_)
  refine lv_goto (tgt := 2) hx hb (qaa qij 10 rfl) (by decide) ?_
  exact hK2 _ _ _ jkR l2 x8 hP hD hS (lv_sub hl [1, 2, 3, 0] rfl) hw
set_option maxHeartbeats 4000000 in
set_option maxRecDepth 100000 in
theorem qamb {p : Program} {l : Launch} {e : Env} {s : State} {m : MethodId} {args : Array Value} {below : List Frame} {meth : Method} {c : Code} {A : Nat → Prop} (dC : Nat → ClassId) (dI : Nat → Nat → Nat) (cyB cyI cyJ cyP : ClassId) (a0 a1 jjR jj5 jj6 : Nat) (jmX jjf jlD jlE jmi jk8 jlX jlF jlY jlf jlG : Value) (jks : Int32) (jkM jkN : NI) (Q : NI → Prop) (C0 : cfx p s m args meth c cX6_settleFor none wsX6_settleFor RX6 4 A (dC, dI) (kT cyB cyI cyJ cyP)) : ∀ (n : Nat) (H : Heap) (locs : List Loc) (ls : Array Slot) (jkR : NI) (l2 l3 : Int32), va_P (dC, dI) vwCl (qin a0 jjR jmX jjf a1 jj5 jj6 jlD jlE jmi jk8 jlX jlF jks jlY jlf jlG jj5 cyI jkM jj6 cyI jkN jjR cyI jkR) H → va_D A (qin a0 jjR jmX jjf a1 jj5 jj6 jlD jlE jmi jk8 jlX jlF jks jlY jlf jlG jj5 cyI jkM jj6 cyI jkN jjR cyI jkR) → va_S A s.heap H locs → lv_has ls 4 [(0, .ref a0), (1, .ref a1), (2, .int l2), (3, .int l3)] → qtx jks jkM jkN Q n jkR l2 l3 → W p l e (headSpec wsX6_settleFor ({ frames := 4, cells := 0, slots := 0, locals := 104 })).room s m args below meth c H locs 0 0 (MQ below (va_Qv (fun (u : NI) => Q u) (cB (dC, dI) (kT cyB cyI cyJ cyP) A (fun u : NI => ((qin a0 jjR jmX jjf a1 jj5 jj6 jlD jlE jmi jk8 jlX jlF jks jlY jlf jlG jj5 cyI jkM jj6 cyI jkN jjR cyI u) : va_W))) A) args s 0 0 A) (F0 m 2 ls []) := by
  obtain ⟨hx, hb, hr, hts, hown, hlocks, hml, hA, hK, hNw⟩ := id C0
  intro n
  induction n with
  | zero => intro H locs ls jkR l2 l3 hP hD hS hl hw; exact False.elim hw
  | succ n ih =>
    intro H locs ls jkR l2 l3 hP hD hS hl hw
    refine lv_iload_n hx hb (qaa qet 2 rfl) rfl (lv_at hl 3 rfl) ?_
    refine lv_aload_n hx hb (qaa qet 3 rfl) rfl (lv_at hl 1 rfl) ?_
    refine va_get (D := (dC, dI)) (ci := 2) (v := .int jks) (C := RX2) (T := TX2) (N := 12) hx hb hts qahX hown hK hP 1 rfl rfl 8 (by decide) (hts _ q8O) (fun _ h9 => h9) rfl (qaa qet 4 rfl) ?_
    refine lv_icmp_ge (tgt := 44) hx hb (qaa qet 5 rfl) (by decide) (fun c1 => ?_) (fun c1 => ?_)
    · have hw := hw.1 c1
      exact ((W.vret hx hb hr (fun t ht hW => ⟨⟨(jkR), rfl, hw, by rw [ht]; exact hP, va_K.moved hW.alike hK, hD⟩, hS.F ht⟩) hS.2.2 (qaa qij 11 rfl)))
    · have hw := hw.2 c1
      refine lv_iload_n hx hb (qaa qet 6 rfl) rfl (lv_at hl 2 rfl) ?_
      refine lv_iload_n hx hb (qaa qet 7 rfl) rfl (lv_at hl 3 rfl) ?_
      refine lv_iconst (v := 1) hx hb (qaa qet 8 rfl) (by decide) ?_
      refine lv_isub hx hb (qaa qet 9 rfl) ?_
      obtain ⟨hCc, hPc, hDc, hFc⟩ := qac (ws' := []) hP hD hS hA [] (by decide +kernel) rfl
      refine va_calli (va_runSN (As := [.int l2, .int (l3 - 1)]) (rest := []) ⟨hx, hb, hml, hown, hts⟩ (qnv l dC dI cyB cyI cyJ cyP H.size l2 (l3 - 1) hw) ⟨(va_cnB 2 hts gX6_settleFor_X10_holds_n38 rfl rfl rfl (qbeG hNw) (hts _ qW7) (by decide +kernel) ⟨nbq rfl, nbq rfl⟩), (hts _ qRx), trivial⟩ ⟨qab, qae hPc hK hDc hNw⟩ rfl rfl hl.1 rfl (lv_room (nbq rfl)) (qaa qet 10 rfl) ⟨nbq rfl, nbq rfl⟩) hS (fun q _ h => hFc q h) hFc (fun r2 u t H1 locs ht hvm hw hB hz1 hk1 hS => ?_)
      obtain ⟨hP1, hK1, hD1⟩ := hB
      rw [ht] at hP1
      obtain ⟨hP, hD⟩ := qah (wr := (qin a0 jjR jmX jjf a1 jj5 jj6 jlD jlE jmi jk8 jlX jlF jks jlY jlf jlG jj5 cyI jkM jj6 cyI jkN jjR cyI jkR)) (w1 := []) (wn := (qin a0 jjR jmX jjf a1 jj5 jj6 jlD jlE jmi jk8 jlX jlF jks jlY jlf jlG jj5 cyI jkM jj6 cyI jkN jjR cyI jkR)) hP hD [] [0, 1, 2, 3, 4] hCc rfl (by decide +kernel) (by decide +kernel) rfl hk1 hFc hP1 hD1
      generalize H1 = H at hP hS ⊢
      refine lv_if_ne (tgt := 38) hx hb (qaa qet 11 rfl) (by decide) (fun c3 => ?_) (fun c3 => ?_)
      · have hw := hw.1 c3
        exact qRT dC dI cyB cyI cyJ cyP a0 a1 jjR jj5 jj6 jmX jjf jlD jlE jmi jk8 jlX jlF jlY jlf jlG jks jkM jkN Q (qtx jks jkM jkN Q n) ih C0 _ _ _ jkR l2 l3 hP hD hS (lv_sub hl [0, 1, 2, 3] rfl) hw
      · have hw := hw.2 c3
        refine lv_aload_n hx hb (qaa qet 12 rfl) rfl (lv_at hl 0 rfl) ?_
        refine va_get (D := (dC, dI)) (ci := 6) (v := .ref jjR) (C := RX6) (T := TX6) (N := 3) hx hb hts qagl hown hK hP 0 rfl rfl 0 (by decide) (hts _ qaej) (fun _ h9 => h9) rfl (qaa qet 13 rfl) ?_
        refine lv_iload_n hx hb (qaa qet 14 rfl) rfl (lv_at hl 2 rfl) ?_
        refine lv_bipush (v := 8) hx hb (qaa qet 15 rfl) (by decide) ?_
        refine lv_imul hx hb (qaa qij 0 rfl) ?_
        refine lv_topi (fun x4 ex4 => ?_)
        have hw := hw x4 ex4
        refine lv_iload_n hx hb (qaa qij 1 rfl) rfl (lv_at hl 3 rfl) ?_
        refine lv_iadd hx hb (qaa qij 2 rfl) ?_
        refine lv_topi (fun x5 ex5 => ?_)
        have hw := hw x5 ex5
        refine lv_aload_n hx hb (qaa qij 3 rfl) rfl (lv_at hl 0 rfl) ?_
        refine lv_aload_n hx hb (qaa qij 4 rfl) rfl (lv_at hl 1 rfl) ?_
        refine lv_iload_n hx hb (qaa qij 5 rfl) rfl (lv_at hl 2 rfl) ?_
        refine lv_iload_n hx hb (qaa qij 6 rfl) rfl (lv_at hl 3 rfl) ?_
        obtain ⟨hCc, hPc, hDc, hFc⟩ := qac (ws' := (qin a0 jjR jmX jjf a1 jj5 jj6 jlD jlE jmi jk8 jlX jlF jks jlY jlf jlG jj5 cyI jkM jj6 cyI jkN jjR cyI jkR)) hP hD hS hA [0, 1, 2, 3, 4] (by decide +kernel) rfl
        refine va_calli (va_runV (As := [.ref a1, .int l2, .int l3]) (rest := [.int x5, .ref jjR]) ⟨hx, hb, hml, hown, hts⟩ (q8m l dC dI cyB cyI cyJ cyP a0 a1 jj5 jj6 jjR H.size (jmX) (jjf) (jlD) (jlE) (jmi) (jk8) (jlX) (jlF) (jlY) (jlf) (jlG) jks jkM jkN jkR l2 l3 hw) (cwV 3 hts gX6_settleFor_X6_leastWay rfl rfl rfl (by decide +kernel) ⟨nbq rfl, nbq rfl⟩) ⟨qab, va_recv (q := (RX6, TX6, 3)) hK hPc (ci := 6) (q0 := 0) rfl rfl, qae hPc hK hDc hNw⟩ rfl rfl hl.1 rfl (lv_room (nbq rfl)) (qaa qij 7 rfl) ⟨nbq rfl, nbq rfl⟩) hS (fun q _ h => hFc q h) hFc (fun r6 u t H1 locs ht hvm hw hB hz1 hk1 hS => ?_)
        obtain ⟨hP1, hK1, hD1⟩ := hB
        rw [ht] at hP1
        obtain ⟨hP, hD⟩ := qah (wr := []) (w1 := (qin a0 jjR jmX jjf a1 jj5 jj6 jlD jlE jmi jk8 jlX jlF jks jlY jlf jlG jj5 cyI jkM jj6 cyI jkN jjR cyI jkR)) (wn := (qin a0 jjR jmX jjf a1 jj5 jj6 jlD jlE jmi jk8 jlX jlF jks jlY jlf jlG jj5 cyI jkM jj6 cyI jkN jjR cyI jkR)) hP hD [0, 1, 2, 3, 4] [] hCc rfl (by decide +kernel) (by decide +kernel) rfl hk1 hFc hP1 hD1
        generalize H1 = H at hP hS ⊢
        obtain ⟨hi9, hw⟩ := hw
        refine va_iast hx hb hK hP hD hS 4 1 rfl rfl hi9 (qaa qij 8 rfl) (fun H locs hP hD hS => ?_)
        obtain ⟨f7, ef7⟩ : ∃ y : NI, y = upd jkR x5.toNatClampNeg r6 := ⟨_, rfl⟩
        have hw := hw f7 ef7
        have hP : va_P (dC, dI) vwCl (qin a0 jjR jmX jjf a1 jj5 jj6 jlD jlE jmi jk8 jlX jlF jks jlY jlf jlG jj5 cyI jkM jj6 cyI jkN jjR cyI f7) H := by rw [ef7]; exact hP
        have hD : va_D A (qin a0 jjR jmX jjf a1 jj5 jj6 jlD jlE jmi jk8 jlX jlF jks jlY jlf jlG jj5 cyI jkM jj6 cyI jkN jjR cyI f7) := by rw [ef7]; exact hD
        exact qRT dC dI cyB cyI cyJ cyP a0 a1 jjR jj5 jj6 jmX jjf jlD jlE jmi jk8 jlX jlF jlY jlf jlG jks jkM jkN Q (qtx jks jkM jkN Q n) ih C0 _ _ _ f7 l2 l3 hP hD hS (lv_sub hl [0, 1, 2, 3] rfl) hw
set_option maxHeartbeats 4000000 in
set_option maxRecDepth 100000 in
theorem qazZ (l : Launch) (dC : Nat → ClassId) (dI : Nat → Nat → Nat) (cyB cyI cyJ cyP : ClassId) (a0 a1 jjR jj5 jj6 sz : Nat) (jmX jjf jlD jlE jmi jk8 jlX jlF jlY jlf jlG : Value) (jks : Int32) (jkM jkN jkR : NI) (p2 : Int32) {Q : NI → Prop} (hw : qPf jks jkM jkN jkR p2 Q) : Met l yX6_settleFor wsX6_settleFor ({ frames := 4, cells := 0, slots := 0, locals := 104 }) (va_Pc [.ref a0, .ref a1, .int p2] (cPc (dC, dI) (kT cyB cyI cyJ cyP) (qin a0 jjR jmX jjf a1 jj5 jj6 jlD jlE jmi jk8 jlX jlF jks jlY jlf jlG jj5 cyI jkM jj6 cyI jkN jjR cyI jkR) sz)) (va_Qv (fun (u : NI) => Q u) (cB (dC, dI) (kT cyB cyI cyJ cyP) (va_A (qin a0 jjR jmX jjf a1 jj5 jj6 jlD jlE jmi jk8 jlX jlF jks jlY jlf jlG jj5 cyI jkM jj6 cyI jkN jjR cyI jkR) sz) (fun u : NI => ((qin a0 jjR jmX jjf a1 jj5 jj6 jlD jlE jmi jk8 jlX jlF jks jlY jlf jlG jj5 cyI jkM jj6 cyI jkN jjR cyI u) : va_W))) (va_A (qin a0 jjR jmX jjf a1 jj5 jj6 jlD jlE jmi jk8 jlX jlF jks jlY jlf jlG jj5 cyI jkM jj6 cyI jkN jjR cyI jkR) sz)) 0 0 (va_A (qin a0 jjR jmX jjf a1 jj5 jj6 jlD jlE jmi jk8 jlX jlF jks jlY jlf jlG jj5 cyI jkM jj6 cyI jkN jjR cyI jkR) sz) := by
  refine Met.ofW (cc := cX6_settleFor) (maxL := 4) (ret := none) (by decide) rfl ?_
  intro p e s m args below meth c s₁ B hml hv
  obtain ⟨rfl, hsz, hP, hK, hD0, hNw⟩ := hv
  have hx := B.exec
  have hb := B.bytes
  have hr := B.returns
  have hts := atoms_spec (ws := wsX6_settleFor) B.pre
  have hown : s.vm.findClass RX6 = some m.cls := findClass_of_methodNamed B.named
  have hlocks := B.notSynchronized
  subst hsz
  have hD := hD0.self (sz := s.heap.size)
  generalize hAe : va_A (qin a0 jjR jmX jjf a1 jj5 jj6 jlD jlE jmi jk8 jlX jlF jks jlY jlf jlG jj5 cyI jkM jj6 cyI jkN jjR cyI jkR) s.heap.size = A at hD ⊢
  have hA : ∀ q : Nat, s.heap.size ≤ q → A q := fun q h => by rw [← hAe]; exact Or.inr h
  have hS : va_S A s.heap s.heap [] := va_S.rf
  have hP : va_P (dC, dI) vwCl (qin a0 jjR jmX jjf a1 jj5 jj6 jlD jlE jmi jk8 jlX jlF jks jlY jlf jlG jj5 cyI jkM jj6 cyI jkN jjR cyI jkR) s.heap := hP
  have hl := lv_entry ([.ref a0, .ref a1, .int p2]) (n := 4) (nbq rfl)
  rw [lg_entry_eq]
  generalize (lg_sl ([.ref a0, .ref a1, .int p2]) ++ List.replicate (4 - (lg_sl ([.ref a0, .ref a1, .int p2])).length) Slot.unset).toArray = ls at hl ⊢
  have hl : lv_has ls 4 [(0, .ref a0), (1, .ref a1), (2, .int p2)] := hl
  have C0 : cfx p s m _ meth c cX6_settleFor none wsX6_settleFor RX6 4 A (dC, dI) (kT cyB cyI cyJ cyP) := ⟨hx, hb, hr, hts, hown, hlocks, hml, hA, hK, hNw⟩
  clear hAe
  obtain ⟨H, hH⟩ : ∃ H, H = s.heap := ⟨_, rfl⟩
  rw [← hH] at hP ⊢
  have hS : va_S A s.heap H [] := by rw [hH]; exact va_S.rf
  have hS := hS
  refine lv_iconst (v := 1) hx hb (qaa qet 0 rfl) (by decide) ?_
  refine lv_istore_n (lv' := [(3, .int 1), (0, .ref a0), (1, .ref a1), (2, .int p2)]) hx hb (qaa qet 1 rfl) rfl hl (by decide) rfl (fun ls hl => ?_)
  obtain ⟨n9, hw⟩ := hw
  exact qamb dC dI cyB cyI cyJ cyP a0 a1 jjR jj5 jj6 jmX jjf jlD jlE jmi jk8 jlX jlF jlY jlf jlG jks jkM jkN Q C0 n9 _ _ _ jkR p2 1 hP hD hS (lv_sub hl [1, 2, 3, 0] rfl) hw
theorem qac0 : ∀ w ∈ u_ws RX2 TX2 12, w ∈ wsX6_firstBest := uiM qtI qLp (by decide +kernel)
theorem qagE : ∀ w ∈ u_ws RX6 TX6 3, w ∈ wsX6_firstBest := uiM qtI euX6 (by decide +kernel)
theorem q9s : (.fieldLink RX6 22 "MarchHares$Down" "forms" "I" : Cond) ∈ wsX6_firstBest := qtI 3265 (by decide +kernel)
theorem qagg : (.fieldLink RX6 9 "MarchHares$Ring" "least" "[I" : Cond) ∈ wsX6_firstBest := qtI 339 (by decide +kernel)
theorem qW8 : (.initialized RX10 : Cond) ∈ wsX6_firstBest := qtI 2 (by decide +kernel)
theorem qPq : (.static yX10_holds : Cond) ∈ wsX6_firstBest := qtI 2052 (by decide +kernel)
set_option maxHeartbeats 4000000 in
set_option maxRecDepth 100000 in
theorem qSq {p : Program} {l : Launch} {e : Env} {s : State} {m : MethodId} {args : Array Value} {below : List Frame} {meth : Method} {c : Code} {A : Nat → Prop} (dC : Nat → ClassId) (dI : Nat → Nat → Nat) (cyB cyI cyJ cyP : ClassId) (a0 a1 jjR jj5 jj6 : Nat) (jmX jjf jlD jlE jmi jk8 jlX jlF jlY jlf jlG : Value) (jkR : NI) (jks : Int32) (jkM jkN : NI) (Q : Int32 → Prop) (K16 : Int32 → Int32 → Int32 → Int32 → Prop) (hK16 : ∀ (H : Heap) (locs : List Loc) (ls : Array Slot) (l2 l3 l4 l5 : Int32), va_P (dC, dI) vwCl (qzG a0 jjR jmX jjf jjR cyI jkR a1 jj5 jj6 jlD jlE jmi jk8 jlX jlF jks jlY jlf jlG jj5 cyI jkM jj6 cyI jkN) H → va_D A (qzG a0 jjR jmX jjf jjR cyI jkR a1 jj5 jj6 jlD jlE jmi jk8 jlX jlF jks jlY jlf jlG jj5 cyI jkM jj6 cyI jkN) → va_S A s.heap H locs → lv_has ls 6 [(0, .ref a0), (1, .ref a1), (2, .int l2), (3, .int l3), (4, .int l4), (5, .int l5)] → K16 l2 l3 l4 l5 → W p l e (headSpec wsX6_firstBest ({ frames := 3, cells := 0, slots := 0, locals := 79 })).room s m args below meth c H locs 0 0 (MQ below (va_Qi (fun (r : Int32) (_ : Unit) => Q r ) (cB (dC, dI) (kT cyB cyI cyJ cyP) A (fun u : Unit => ((qzG a0 jjR jmX jjf jjR cyI jkR a1 jj5 jj6 jlD jlE jmi jk8 jlX jlF jks jlY jlf jlG jj5 cyI jkM jj6 cyI jkN) : va_W))) A) args s 0 0 A) (F0 m 16 ls [])) (C0 : cfx p s m args meth c cX6_firstBest (some .int) wsX6_firstBest RX6 6 A (dC, dI) (kT cyB cyI cyJ cyP)) : ∀ (H : Heap) (locs : List Loc) (ls : Array Slot) (l2 l3 l4 l5 : Int32), va_P (dC, dI) vwCl (qzG a0 jjR jmX jjf jjR cyI jkR a1 jj5 jj6 jlD jlE jmi jk8 jlX jlF jks jlY jlf jlG jj5 cyI jkM jj6 cyI jkN) H → va_D A (qzG a0 jjR jmX jjf jjR cyI jkR a1 jj5 jj6 jlD jlE jmi jk8 jlX jlF jks jlY jlf jlG jj5 cyI jkM jj6 cyI jkN) → va_S A s.heap H locs → lv_has ls 6 [(0, .ref a0), (1, .ref a1), (2, .int l2), (3, .int l3), (4, .int l4), (5, .int l5)] → qHr jkR jks jkM jkN Q K16 l2 l3 l4 l5 → W p l e (headSpec wsX6_firstBest ({ frames := 3, cells := 0, slots := 0, locals := 79 })).room s m args below meth c H locs 0 0 (MQ below (va_Qi (fun (r : Int32) (_ : Unit) => Q r ) (cB (dC, dI) (kT cyB cyI cyJ cyP) A (fun u : Unit => ((qzG a0 jjR jmX jjf jjR cyI jkR a1 jj5 jj6 jlD jlE jmi jk8 jlX jlF jks jlY jlf jlG jj5 cyI jkM jj6 cyI jkN) : va_W))) A) args s 0 0 A) (F0 m 53 ls []) := by
  obtain ⟨hx, hb, hr, hts, hown, hlocks, hml, hA, hK, hNw⟩ := id C0
  intro H locs ls l2 l3 l4 l5 hP hD hS hl hw
  obtain ⟨x9, ex9⟩ : ∃ y : Int32, y = l5 + 1 := ⟨_, rfl⟩
  have hw := hw x9 ex9
  refine lv_iinc (v := x9) (lv' := [(5, .int x9), (0, .ref a0), (1, .ref a1), (2, .int l2), (3, .int l3), (4, .int l4)]) hx hb (qaa qds 15 rfl) hl (k := 5) rfl (by rw [ex9]; rfl) (by decide) rfl (fun ls hl => ?_)
  refine lv_goto (tgt := 16) hx hb (qaa qHH 0 rfl) (by decide) ?_
  exact hK16 _ _ _ l2 l3 l4 x9 hP hD hS (lv_sub hl [1, 2, 3, 4, 5, 0] rfl) hw
set_option maxHeartbeats 4000000 in
set_option maxRecDepth 100000 in
theorem qacU {p : Program} {l : Launch} {e : Env} {s : State} {m : MethodId} {args : Array Value} {below : List Frame} {meth : Method} {c : Code} {A : Nat → Prop} (dC : Nat → ClassId) (dI : Nat → Nat → Nat) (cyB cyI cyJ cyP : ClassId) (a0 a1 jjR jj5 jj6 : Nat) (jmX jjf jlD jlE jmi jk8 jlX jlF jlY jlf jlG : Value) (jkR : NI) (jks : Int32) (jkM jkN : NI) (Q : Int32 → Prop) (C0 : cfx p s m args meth c cX6_firstBest (some .int) wsX6_firstBest RX6 6 A (dC, dI) (kT cyB cyI cyJ cyP)) : ∀ (n : Nat) (H : Heap) (locs : List Loc) (ls : Array Slot) (l2 l3 l4 l5 : Int32), va_P (dC, dI) vwCl (qzG a0 jjR jmX jjf jjR cyI jkR a1 jj5 jj6 jlD jlE jmi jk8 jlX jlF jks jlY jlf jlG jj5 cyI jkM jj6 cyI jkN) H → va_D A (qzG a0 jjR jmX jjf jjR cyI jkR a1 jj5 jj6 jlD jlE jmi jk8 jlX jlF jks jlY jlf jlG jj5 cyI jkM jj6 cyI jkN) → va_S A s.heap H locs → lv_has ls 6 [(0, .ref a0), (1, .ref a1), (2, .int l2), (3, .int l3), (4, .int l4), (5, .int l5)] → qrV jkR jks jkM jkN Q n l2 l3 l4 l5 → W p l e (headSpec wsX6_firstBest ({ frames := 3, cells := 0, slots := 0, locals := 79 })).room s m args below meth c H locs 0 0 (MQ below (va_Qi (fun (r : Int32) (_ : Unit) => Q r ) (cB (dC, dI) (kT cyB cyI cyJ cyP) A (fun u : Unit => ((qzG a0 jjR jmX jjf jjR cyI jkR a1 jj5 jj6 jlD jlE jmi jk8 jlX jlF jks jlY jlf jlG jj5 cyI jkM jj6 cyI jkN) : va_W))) A) args s 0 0 A) (F0 m 16 ls []) := by
  obtain ⟨hx, hb, hr, hts, hown, hlocks, hml, hA, hK, hNw⟩ := id C0
  intro n
  induction n with
  | zero => intro H locs ls l2 l3 l4 l5 hP hD hS hl hw; exact False.elim hw
  | succ n ih =>
    intro H locs ls l2 l3 l4 l5 hP hD hS hl hw
    refine lv_iload hx hb (qaa qdY 11 rfl) (lv_at hl 5 rfl) ?_
    refine lv_aload_n hx hb (qaa qdY 12 rfl) rfl (lv_at hl 1 rfl) ?_
    refine va_get (D := (dC, dI)) (ci := 2) (v := .int jks) (C := RX2) (T := TX2) (N := 12) hx hb hts qac0 hown hK hP 2 rfl rfl 8 (by decide) (hts _ q9s) (fun _ h9 => h9) rfl (qaa qdY 13 rfl) ?_
    refine lv_icmp_ge (tgt := 59) hx hb (qaa qdY 14 rfl) (by decide) (fun c4 => ?_) (fun c4 => ?_)
    · have hw := hw.1 c4
      refine lv_iload_n hx hb (qaa qHH 1 rfl) rfl (lv_at hl 3 rfl) ?_
      exact ((W.iret (v := l3) hx hb hr (fun t ht hW => ⟨⟨l3, (), rfl, hw, by rw [ht]; exact hP, va_K.moved hW.alike hK, hD⟩, hS.F ht⟩) hS.2.2 (qaa qHH 2 rfl)))
    · have hw := hw.2 c4
      refine lv_iload_n hx hb (qaa qdY 15 rfl) rfl (lv_at hl 2 rfl) ?_
      refine lv_iload hx hb (qaa qds 0 rfl) (lv_at hl 5 rfl) ?_
      refine lv_iconst (v := 1) hx hb (qaa qds 1 rfl) (by decide) ?_
      refine lv_isub hx hb (qaa qds 2 rfl) ?_
      obtain ⟨hCc, hPc, hDc, hFc⟩ := qac (ws' := []) hP hD hS hA [] (by decide +kernel) rfl
      refine va_calli (va_runSN (As := [.int l2, .int (l5 - 1)]) (rest := []) ⟨hx, hb, hml, hown, hts⟩ (qnv l dC dI cyB cyI cyJ cyP H.size l2 (l5 - 1) hw) ⟨(va_cnB 2 hts gX6_firstBest_X10_holds_n38 rfl rfl rfl (qbeG hNw) (hts _ qW8) (by decide +kernel) ⟨nbq rfl, nbq rfl⟩), (hts _ qPq), trivial⟩ ⟨qab, qae hPc hK hDc hNw⟩ rfl rfl hl.1 rfl (lv_room (nbq rfl)) (qaa qds 3 rfl) ⟨nbq rfl, nbq rfl⟩) hS (fun q _ h => hFc q h) hFc (fun r5 u t H1 locs ht hvm hw hB hz1 hk1 hS => ?_)
      obtain ⟨hP1, hK1, hD1⟩ := hB
      rw [ht] at hP1
      obtain ⟨hP, hD⟩ := qah (wr := (qzG a0 jjR jmX jjf jjR cyI jkR a1 jj5 jj6 jlD jlE jmi jk8 jlX jlF jks jlY jlf jlG jj5 cyI jkM jj6 cyI jkN)) (w1 := []) (wn := (qzG a0 jjR jmX jjf jjR cyI jkR a1 jj5 jj6 jlD jlE jmi jk8 jlX jlF jks jlY jlf jlG jj5 cyI jkM jj6 cyI jkN)) hP hD [] [0, 1, 2, 3, 4] hCc rfl (by decide +kernel) (by decide +kernel) rfl hk1 hFc hP1 hD1
      generalize H1 = H at hP hS ⊢
      refine lv_if_eq (tgt := 53) hx hb (qaa qds 4 rfl) (by decide) (fun c6 => ?_) (fun c6 => ?_)
      · have hw := hw.1 c6
        exact qSq dC dI cyB cyI cyJ cyP a0 a1 jjR jj5 jj6 jmX jjf jlD jlE jmi jk8 jlX jlF jlY jlf jlG jkR jks jkM jkN Q (qrV jkR jks jkM jkN Q n) ih C0 _ _ _ l2 l3 l4 l5 hP hD hS (lv_sub hl [0, 1, 2, 3, 4, 5] rfl) hw
      · have hw := hw.2 c6
        refine lv_aload_n hx hb (qaa qds 5 rfl) rfl (lv_at hl 0 rfl) ?_
        refine lv_aload_n hx hb (qaa qds 6 rfl) rfl (lv_at hl 1 rfl) ?_
        refine lv_iload_n hx hb (qaa qds 7 rfl) rfl (lv_at hl 2 rfl) ?_
        refine lv_iload_n hx hb (qaa qds 8 rfl) rfl (lv_at hl 3 rfl) ?_
        refine lv_iload hx hb (qaa qds 9 rfl) (lv_at hl 5 rfl) ?_
        obtain ⟨hCc, hPc, hDc, hFc⟩ := qac (ws' := (qin a0 jjR jmX jjf a1 jj5 jj6 jlD jlE jmi jk8 jlX jlF jks jlY jlf jlG jj5 cyI jkM jj6 cyI jkN jjR cyI jkR)) hP hD hS hA [0, 2, 3, 4, 1] (by decide +kernel) rfl
        refine va_calli (va_runV (As := [.ref a1, .int l2, .int l3, .int l5]) (rest := []) ⟨hx, hb, hml, hown, hts⟩ (qagP l dC dI cyB cyI cyJ cyP a0 a1 jj5 jj6 jjR H.size (jmX) (jjf) (jlD) (jlE) (jmi) (jk8) (jlX) (jlF) (.int jks) (jlY) (jlf) (jlG) jkM jkN jkR l2 l3 l5 hw) (cwV 4 hts gX6_firstBest_X6_wayOver rfl rfl rfl (by decide +kernel) ⟨nbq rfl, nbq rfl⟩) ⟨qab, va_recv (q := (RX6, TX6, 3)) hK hPc (ci := 6) (q0 := 0) rfl rfl, qae hPc hK hDc hNw⟩ rfl rfl hl.1 rfl (lv_room (nbq rfl)) (qaa qds 10 rfl) ⟨nbq rfl, nbq rfl⟩) hS (fun q _ h => hFc q h) hFc (fun r7 u t H1 locs ht hvm hw hB hz1 hk1 hS => ?_)
        obtain ⟨hP1, hK1, hD1⟩ := hB
        rw [ht] at hP1
        obtain ⟨hP, hD⟩ := qad (wr := []) (w1 := (qin a0 jjR jmX jjf a1 jj5 jj6 jlD jlE jmi jk8 jlX jlF jks jlY jlf jlG jj5 cyI jkM jj6 cyI jkN jjR cyI jkR)) (wn := (qzG a0 jjR jmX jjf jjR cyI jkR a1 jj5 jj6 jlD jlE jmi jk8 jlX jlF jks jlY jlf jlG jj5 cyI jkM jj6 cyI jkN)) hP hD [0, 2, 3, 4, 1] [] [0, 4, 1, 2, 3] hCc rfl (by decide +kernel) (by decide +kernel) (by decide +kernel) rfl hk1 hFc hP1 hD1
        generalize H1 = H at hP hS ⊢
        refine lv_iload hx hb (qaa qds 11 rfl) (lv_at hl 4 rfl) ?_
        refine lv_icmp_ne (tgt := 53) hx hb (qaa qds 12 rfl) (by decide) (fun c8 => ?_) (fun c8 => ?_)
        · have hw := hw.1 c8
          exact qSq dC dI cyB cyI cyJ cyP a0 a1 jjR jj5 jj6 jmX jjf jlD jlE jmi jk8 jlX jlF jlY jlf jlG jkR jks jkM jkN Q (qrV jkR jks jkM jkN Q n) ih C0 _ _ _ l2 l3 l4 l5 hP hD hS (lv_sub hl [0, 1, 2, 3, 4, 5] rfl) hw
        · have hw := hw.2 c8
          refine lv_iload hx hb (qaa qds 13 rfl) (lv_at hl 5 rfl) ?_
          exact ((W.iret (v := l5) hx hb hr (fun t ht hW => ⟨⟨l5, (), rfl, hw, by rw [ht]; exact hP, va_K.moved hW.alike hK, hD⟩, hS.F ht⟩) hS.2.2 (qaa qds 14 rfl)))
set_option maxHeartbeats 4000000 in
set_option maxRecDepth 100000 in
theorem qaxF (l : Launch) (dC : Nat → ClassId) (dI : Nat → Nat → Nat) (cyB cyI cyJ cyP : ClassId) (a0 a1 jjR jj5 jj6 sz : Nat) (jmX jjf jlD jlE jmi jk8 jlX jlF jlY jlf jlG : Value) (jkR : NI) (jks : Int32) (jkM jkN : NI) (p2 p3 : Int32) {Q : Int32 → Prop} (hw : qQ9 jkR jks jkM jkN p2 p3 Q) : Met l yX6_firstBest wsX6_firstBest ({ frames := 3, cells := 0, slots := 0, locals := 79 }) (va_Pc [.ref a0, .ref a1, .int p2, .int p3] (cPc (dC, dI) (kT cyB cyI cyJ cyP) (qzG a0 jjR jmX jjf jjR cyI jkR a1 jj5 jj6 jlD jlE jmi jk8 jlX jlF jks jlY jlf jlG jj5 cyI jkM jj6 cyI jkN) sz)) (va_Qi (fun (r : Int32) (_ : Unit) => Q r ) (cB (dC, dI) (kT cyB cyI cyJ cyP) (va_A (qzG a0 jjR jmX jjf jjR cyI jkR a1 jj5 jj6 jlD jlE jmi jk8 jlX jlF jks jlY jlf jlG jj5 cyI jkM jj6 cyI jkN) sz) (fun u : Unit => ((qzG a0 jjR jmX jjf jjR cyI jkR a1 jj5 jj6 jlD jlE jmi jk8 jlX jlF jks jlY jlf jlG jj5 cyI jkM jj6 cyI jkN) : va_W))) (va_A (qzG a0 jjR jmX jjf jjR cyI jkR a1 jj5 jj6 jlD jlE jmi jk8 jlX jlF jks jlY jlf jlG jj5 cyI jkM jj6 cyI jkN) sz)) 0 0 (va_A (qzG a0 jjR jmX jjf jjR cyI jkR a1 jj5 jj6 jlD jlE jmi jk8 jlX jlF jks jlY jlf jlG jj5 cyI jkM jj6 cyI jkN) sz) := by
  refine Met.ofW (cc := cX6_firstBest) (maxL := 6) (ret := (some .int)) (by decide) rfl ?_
  intro p e s m args below meth c s₁ B hml hv
  obtain ⟨rfl, hsz, hP, hK, hD0, hNw⟩ := hv
  have hx := B.exec
  have hb := B.bytes
  have hr := B.returns
  have hts := atoms_spec (ws := wsX6_firstBest) B.pre
  have hown : s.vm.findClass RX6 = some m.cls := findClass_of_methodNamed B.named
  have hlocks := B.notSynchronized
  subst hsz
  have hD := hD0.self (sz := s.heap.size)
  generalize hAe : va_A (qzG a0 jjR jmX jjf jjR cyI jkR a1 jj5 jj6 jlD jlE jmi jk8 jlX jlF jks jlY jlf jlG jj5 cyI jkM jj6 cyI jkN) s.heap.size = A at hD ⊢
  have hA : ∀ q : Nat, s.heap.size ≤ q → A q := fun q h => by rw [← hAe]; exact Or.inr h
  have hS : va_S A s.heap s.heap [] := va_S.rf
  have hP : va_P (dC, dI) vwCl (qzG a0 jjR jmX jjf jjR cyI jkR a1 jj5 jj6 jlD jlE jmi jk8 jlX jlF jks jlY jlf jlG jj5 cyI jkM jj6 cyI jkN) s.heap := hP
  have hl := lv_entry ([.ref a0, .ref a1, .int p2, .int p3]) (n := 6) (nbq rfl)
  rw [lg_entry_eq]
  generalize (lg_sl ([.ref a0, .ref a1, .int p2, .int p3]) ++ List.replicate (6 - (lg_sl ([.ref a0, .ref a1, .int p2, .int p3])).length) Slot.unset).toArray = ls at hl ⊢
  have hl : lv_has ls 6 [(0, .ref a0), (1, .ref a1), (2, .int p2), (3, .int p3)] := hl
  have C0 : cfx p s m _ meth c cX6_firstBest (some .int) wsX6_firstBest RX6 6 A (dC, dI) (kT cyB cyI cyJ cyP) := ⟨hx, hb, hr, hts, hown, hlocks, hml, hA, hK, hNw⟩
  clear hAe
  obtain ⟨H, hH⟩ : ∃ H, H = s.heap := ⟨_, rfl⟩
  rw [← hH] at hP ⊢
  have hS : va_S A s.heap H [] := by rw [hH]; exact va_S.rf
  have hS := hS
  refine lv_aload_n hx hb (qaa qdY 0 rfl) rfl (lv_at hl 0 rfl) ?_
  refine va_get (D := (dC, dI)) (ci := 6) (v := .ref jjR) (C := RX6) (T := TX6) (N := 3) hx hb hts qagE hown hK hP 0 rfl rfl 0 (by decide) (hts _ qagg) (fun _ h9 => h9) rfl (qaa qdY 1 rfl) ?_
  refine lv_iload_n hx hb (qaa qdY 2 rfl) rfl (lv_at hl 2 rfl) ?_
  refine lv_bipush (v := 8) hx hb (qaa qdY 3 rfl) (by decide) ?_
  refine lv_imul hx hb (qaa qdY 4 rfl) ?_
  refine lv_topi (fun x1 ex1 => ?_)
  have hw := hw x1 ex1
  refine lv_iload_n hx hb (qaa qdY 5 rfl) rfl (lv_at hl 3 rfl) ?_
  refine lv_iadd hx hb (qaa qdY 6 rfl) ?_
  refine lv_topi (fun x2 ex2 => ?_)
  have hw := hw x2 ex2
  obtain ⟨hi9, hw⟩ := hw
  refine va_iald hx hb hK hP 1 1 rfl rfl hi9 (qaa qdY 7 rfl) ?_
  refine lv_topi (fun x3 ex3 => ?_)
  have hw := hw x3 ex3
  refine lv_istore (lv' := [(4, .int x3), (0, .ref a0), (1, .ref a1), (2, .int p2), (3, .int p3)]) hx hb (qaa qdY 8 rfl) hl (by decide) rfl (fun ls hl => ?_)
  refine lv_iconst (v := 1) hx hb (qaa qdY 9 rfl) (by decide) ?_
  refine lv_istore (lv' := [(5, .int 1), (4, .int x3), (0, .ref a0), (1, .ref a1), (2, .int p2), (3, .int p3)]) hx hb (qaa qdY 10 rfl) hl (by decide) rfl (fun ls hl => ?_)
  obtain ⟨n9, hw⟩ := hw
  exact qacU dC dI cyB cyI cyJ cyP a0 a1 jjR jj5 jj6 jmX jjf jlD jlE jmi jk8 jlX jlF jlY jlf jlG jkR jks jkM jkN Q C0 n9 _ _ _ p2 p3 x3 1 hP hD hS (lv_sub hl [2, 3, 4, 5, 1, 0] rfl) hw
theorem qaSI : ∀ w ∈ u_ws RX2 TX2 12, w ∈ wsX6_walk := uiM qV8 qLp (by decide +kernel)
theorem qaid : ∀ w ∈ u_ws RX6 TX6 3, w ∈ wsX6_walk := uiM qV8 euX6 (by decide +kernel)
theorem q7p : (.fieldLink RX6 15 "MarchHares$Ring" "row" "[I" : Cond) ∈ wsX6_walk := qV8 340 (by decide +kernel)
theorem qaHs : (.fieldLink RX6 22 "MarchHares$Down" "forms" "I" : Cond) ∈ wsX6_walk := qV8 3265 (by decide +kernel)
set_option maxHeartbeats 4000000 in
set_option maxRecDepth 100000 in
theorem qaQP {p : Program} {l : Launch} {e : Env} {s : State} {m : MethodId} {args : Array Value} {below : List Frame} {meth : Method} {c : Code} {A : Nat → Prop} (dC : Nat → ClassId) (dI : Nat → Nat → Nat) (cyB cyI cyJ cyP : ClassId) (a0 a1 jch jjR jj5 jj6 : Nat) (jjf jlD jlE jmi jk8 jlX jlF jlY jlf jlG : Value) (jks : Int32) (jkR jkM jkN : NI) (Q : NI → Prop) (C0 : cfx p s m args meth c cX6_walk none wsX6_walk RX6 6 A (dC, dI) (kT cyB cyI cyJ cyP)) : ∀ (n : Nat) (H : Heap) (locs : List Loc) (ls : Array Slot) (jdE : NI) (l3 l4 l5 : Int32), va_P (dC, dI) vwCl (qFu a0 jjR jch jjf jch cyI jdE a1 jj5 jj6 jlD jlE jmi jk8 jlX jlF jks jlY jlf jlG jjR cyI jkR jj5 cyI jkM jj6 cyI jkN) H → va_D A (qFu a0 jjR jch jjf jch cyI jdE a1 jj5 jj6 jlD jlE jmi jk8 jlX jlF jks jlY jlf jlG jjR cyI jkR jj5 cyI jkM jj6 cyI jkN) → va_S A s.heap H locs → lv_has ls 6 [(0, .ref a0), (1, .ref a1), (3, .int l3), (4, .int l4), (5, .int l5)] → qNQ jks jkR jkM jkN Q n jdE l3 l4 l5 → W p l e (headSpec wsX6_walk ({ frames := 4, cells := 0, slots := 0, locals := 104 })).room s m args below meth c H locs 0 0 (MQ below (va_Qv (fun (u : NI) => Q u) (cB (dC, dI) (kT cyB cyI cyJ cyP) A (fun u : NI => ((qFu a0 jjR jch jjf jch cyI u a1 jj5 jj6 jlD jlE jmi jk8 jlX jlF jks jlY jlf jlG jjR cyI jkR jj5 cyI jkM jj6 cyI jkN) : va_W))) A) args s 0 0 A) (F0 m 15 ls []) := by
  obtain ⟨hx, hb, hr, hts, hown, hlocks, hml, hA, hK, hNw⟩ := id C0
  intro n
  induction n with
  | zero => intro H locs ls jdE l3 l4 l5 hP hD hS hl hw; exact False.elim hw
  | succ n ih =>
    intro H locs ls jdE l3 l4 l5 hP hD hS hl hw
    refine lv_iload hx hb (qaa qot 11 rfl) (lv_at hl 4 rfl) ?_
    refine lv_aload_n hx hb (qaa qot 12 rfl) rfl (lv_at hl 1 rfl) ?_
    refine va_get (D := (dC, dI)) (ci := 2) (v := .int jks) (C := RX2) (T := TX2) (N := 12) hx hb hts qaSI hown hK hP 2 rfl rfl 8 (by decide) (hts _ qaHs) (fun _ h9 => h9) rfl (qaa qot 13 rfl) ?_
    refine lv_icmp_ge (tgt := 60) hx hb (qaa qot 14 rfl) (by decide) (fun c2 => ?_) (fun c2 => ?_)
    · have hw := hw.1 c2
      exact ((W.vret hx hb hr (fun t ht hW => ⟨⟨(jdE), rfl, hw, by rw [ht]; exact hP, va_K.moved hW.alike hK, hD⟩, hS.F ht⟩) hS.2.2 (qaa qzO 6 rfl)))
    · have hw := hw.2 c2
      refine lv_aload_n hx hb (qaa qot 15 rfl) rfl (lv_at hl 0 rfl) ?_
      refine lv_aload_n hx hb (qaa ql8 0 rfl) rfl (lv_at hl 1 rfl) ?_
      refine lv_iload_n hx hb (qaa ql8 1 rfl) rfl (lv_at hl 2 rfl) ?_
      refine lv_iload hx hb (qaa ql8 2 rfl) (lv_at hl 3 rfl) ?_
      obtain ⟨hCc, hPc, hDc, hFc⟩ := qac (ws' := (qa9m a0 jjR jch jjf jjR cyI jkR a1 jj5 jj6 jlD jlE jmi jk8 jlX jlF jks jlY jlf jlG jj5 cyI jkM jj6 cyI jkN)) hP hD hS hA [0, 3, 2, 4, 5] (by decide +kernel) rfl
      refine va_calli (va_runV (As := [.ref a1, .int l3, .int l4]) (rest := []) ⟨hx, hb, hml, hown, hts⟩ (qaxF l dC dI cyB cyI cyJ cyP a0 a1 jjR jj5 jj6 H.size (.ref jch) (jjf) (jlD) (jlE) (jmi) (jk8) (jlX) (jlF) (jlY) (jlf) (jlG) jkR jks jkM jkN l3 l4 hw) (cwV 3 hts gX6_walk_X6_firstBest rfl rfl rfl (by decide +kernel) ⟨nbq rfl, nbq rfl⟩) ⟨qab, va_recv (q := (RX6, TX6, 3)) hK hPc (ci := 6) (q0 := 0) rfl rfl, qae hPc hK hDc hNw⟩ rfl rfl hl.1 rfl (lv_room (nbq rfl)) (qaa ql8 3 rfl) ⟨nbq rfl, nbq rfl⟩) hS (fun q _ h => hFc q h) hFc (fun r3 u t H1 locs ht hvm hw hB hz1 hk1 hS => ?_)
      obtain ⟨hP1, hK1, hD1⟩ := hB
      rw [ht] at hP1
      obtain ⟨hP, hD⟩ := qad (wr := [(jch, .inl (cyI, 8, .inl jdE))]) (w1 := (qa9m a0 jjR jch jjf jjR cyI jkR a1 jj5 jj6 jlD jlE jmi jk8 jlX jlF jks jlY jlf jlG jj5 cyI jkM jj6 cyI jkN)) (wn := (qFu a0 jjR jch jjf jch cyI jdE a1 jj5 jj6 jlD jlE jmi jk8 jlX jlF jks jlY jlf jlG jjR cyI jkR jj5 cyI jkM jj6 cyI jkN)) hP hD [0, 3, 2, 4, 5] [1] [1, 0, 3, 2, 4, 5] hCc rfl (by decide +kernel) (by decide +kernel) (by decide +kernel) rfl hk1 hFc hP1 hD1
      generalize H1 = H at hP hS ⊢
      refine lv_istore (lv' := [(4, .int r3), (0, .ref a0), (1, .ref a1), (3, .int l3), (5, .int l5)]) hx hb (qaa ql8 4 rfl) hl (by decide) rfl (fun ls hl => ?_)
      refine lv_iload_n hx hb (qaa ql8 5 rfl) rfl (lv_at hl 3 rfl) ?_
      refine lv_iconst (v := 1) hx hb (qaa ql8 6 rfl) (by decide) ?_
      refine lv_iload hx hb (qaa ql8 7 rfl) (lv_at hl 0 rfl) ?_
      refine lv_iconst (v := 1) hx hb (qaa ql8 8 rfl) (by decide) ?_
      refine lv_isub hx hb (qaa ql8 9 rfl) ?_
      refine lv_ishl hx hb (qaa ql8 10 rfl) ?_
      refine lv_iconst (v := (-1)) hx hb (qaa ql8 11 rfl) (by decide) ?_
      refine lv_ixor hx hb (qaa ql8 12 rfl) ?_
      refine lv_iand hx hb (qaa ql8 13 rfl) ?_
      refine lv_topi (fun x4 ex4 => ?_)
      have hw := hw x4 ex4
      refine lv_istore_n (lv' := [(3, .int x4), (4, .int r3), (0, .ref a0), (1, .ref a1), (5, .int l5)]) hx hb (qaa ql8 14 rfl) rfl hl (by decide) rfl (fun ls hl => ?_)
      refine lv_aload_n hx hb (qaa ql8 15 rfl) rfl (lv_at hl 2 rfl) ?_
      refine va_get (D := (dC, dI)) (ci := 6) (v := .ref jch) (C := RX6) (T := TX6) (N := 3) hx hb hts qaid hown hK hP 0 rfl rfl 1 (by decide) (hts _ q7p) (fun _ h9 => h9) rfl (qaa qzO 0 rfl) ?_
      refine lv_iload hx hb (qaa qzO 1 rfl) (lv_at hl 4 rfl) ?_
      refine lv_iload hx hb (qaa qzO 2 rfl) (lv_at hl 1 rfl) ?_
      obtain ⟨hi9, hw⟩ := hw
      refine va_iast hx hb hK hP hD hS 1 1 rfl rfl hi9 (qaa qzO 3 rfl) (fun H locs hP hD hS => ?_)
      obtain ⟨f5, ef5⟩ : ∃ y : NI, y = upd jdE l5.toNatClampNeg r3 := ⟨_, rfl⟩
      have hw := hw f5 ef5
      have hP : va_P (dC, dI) vwCl (qFu a0 jjR jch jjf jch cyI f5 a1 jj5 jj6 jlD jlE jmi jk8 jlX jlF jks jlY jlf jlG jjR cyI jkR jj5 cyI jkM jj6 cyI jkN) H := by rw [ef5]; exact hP
      have hD : va_D A (qFu a0 jjR jch jjf jch cyI f5 a1 jj5 jj6 jlD jlE jmi jk8 jlX jlF jks jlY jlf jlG jjR cyI jkR jj5 cyI jkM jj6 cyI jkN) := by rw [ef5]; exact hD
      obtain ⟨x6, ex6⟩ : ∃ y : Int32, y = l5 + 1 := ⟨_, rfl⟩
      have hw := hw x6 ex6
      refine lv_iinc (v := x6) (lv' := [(5, .int x6), (3, .int x4), (4, .int r3), (0, .ref a0), (1, .ref a1)]) hx hb (qaa qzO 4 rfl) hl (k := 4) rfl (by rw [ex6]; rfl) (by decide) rfl (fun ls hl => ?_)
      refine lv_goto (tgt := 15) hx hb (qaa qzO 5 rfl) (by decide) ?_
      exact ih _ _ _ f5 x4 r3 x6 hP hD hS (lv_sub hl [3, 4, 1, 2, 0] rfl) hw
set_option maxHeartbeats 4000000 in
set_option maxRecDepth 100000 in
theorem qa2n (l : Launch) (dC : Nat → ClassId) (dI : Nat → Nat → Nat) (cyB cyI cyJ cyP : ClassId) (a0 a1 jch jjR jj5 jj6 sz : Nat) (jjf jlD jlE jmi jk8 jlX jlF jlY jlf jlG : Value) (jks : Int32) (jkR jkM jkN jdE : NI) (p2 : Int32) {Q : NI → Prop} (hw : qakX jks jkR jkM jkN jdE p2 Q) : Met l yX6_walk wsX6_walk ({ frames := 4, cells := 0, slots := 0, locals := 104 }) (va_Pc [.ref a0, .ref a1, .int p2] (cPc (dC, dI) (kT cyB cyI cyJ cyP) (qFu a0 jjR jch jjf jch cyI jdE a1 jj5 jj6 jlD jlE jmi jk8 jlX jlF jks jlY jlf jlG jjR cyI jkR jj5 cyI jkM jj6 cyI jkN) sz)) (va_Qv (fun (u : NI) => Q u) (cB (dC, dI) (kT cyB cyI cyJ cyP) (va_A (qFu a0 jjR jch jjf jch cyI jdE a1 jj5 jj6 jlD jlE jmi jk8 jlX jlF jks jlY jlf jlG jjR cyI jkR jj5 cyI jkM jj6 cyI jkN) sz) (fun u : NI => ((qFu a0 jjR jch jjf jch cyI u a1 jj5 jj6 jlD jlE jmi jk8 jlX jlF jks jlY jlf jlG jjR cyI jkR jj5 cyI jkM jj6 cyI jkN) : va_W))) (va_A (qFu a0 jjR jch jjf jch cyI jdE a1 jj5 jj6 jlD jlE jmi jk8 jlX jlF jks jlY jlf jlG jjR cyI jkR jj5 cyI jkM jj6 cyI jkN) sz)) 0 0 (va_A (qFu a0 jjR jch jjf jch cyI jdE a1 jj5 jj6 jlD jlE jmi jk8 jlX jlF jks jlY jlf jlG jjR cyI jkR jj5 cyI jkM jj6 cyI jkN) sz) := by
  refine Met.ofW (cc := cX6_walk) (maxL := 6) (ret := none) (by decide) rfl ?_
  intro p e s m args below meth c s₁ B hml hv
  obtain ⟨rfl, hsz, hP, hK, hD0, hNw⟩ := hv
  have hx := B.exec
  have hb := B.bytes
  have hr := B.returns
  have hts := atoms_spec (ws := wsX6_walk) B.pre
  have hown : s.vm.findClass RX6 = some m.cls := findClass_of_methodNamed B.named
  have hlocks := B.notSynchronized
  subst hsz
  have hD := hD0.self (sz := s.heap.size)
  generalize hAe : va_A (qFu a0 jjR jch jjf jch cyI jdE a1 jj5 jj6 jlD jlE jmi jk8 jlX jlF jks jlY jlf jlG jjR cyI jkR jj5 cyI jkM jj6 cyI jkN) s.heap.size = A at hD ⊢
  have hA : ∀ q : Nat, s.heap.size ≤ q → A q := fun q h => by rw [← hAe]; exact Or.inr h
  have hS : va_S A s.heap s.heap [] := va_S.rf
  have hP : va_P (dC, dI) vwCl (qFu a0 jjR jch jjf jch cyI jdE a1 jj5 jj6 jlD jlE jmi jk8 jlX jlF jks jlY jlf jlG jjR cyI jkR jj5 cyI jkM jj6 cyI jkN) s.heap := hP
  have hl := lv_entry ([.ref a0, .ref a1, .int p2]) (n := 6) (nbq rfl)
  rw [lg_entry_eq]
  generalize (lg_sl ([.ref a0, .ref a1, .int p2]) ++ List.replicate (6 - (lg_sl ([.ref a0, .ref a1, .int p2])).length) Slot.unset).toArray = ls at hl ⊢
  have hl : lv_has ls 6 [(0, .ref a0), (1, .ref a1), (2, .int p2)] := hl
  have C0 : cfx p s m _ meth c cX6_walk none wsX6_walk RX6 6 A (dC, dI) (kT cyB cyI cyJ cyP) := ⟨hx, hb, hr, hts, hown, hlocks, hml, hA, hK, hNw⟩
  clear hAe
  obtain ⟨H, hH⟩ : ∃ H, H = s.heap := ⟨_, rfl⟩
  rw [← hH] at hP ⊢
  have hS : va_S A s.heap H [] := by rw [hH]; exact va_S.rf
  have hS := hS
  refine lv_iload_n hx hb (qaa qot 0 rfl) rfl (lv_at hl 2 rfl) ?_
  refine lv_istore_n (lv' := [(3, .int p2), (0, .ref a0), (1, .ref a1), (2, .int p2)]) hx hb (qaa qot 1 rfl) rfl hl (by decide) rfl (fun ls hl => ?_)
  refine lv_iconst (v := 0) hx hb (qaa qot 2 rfl) (by decide) ?_
  refine lv_istore (lv' := [(4, .int 0), (3, .int p2), (0, .ref a0), (1, .ref a1), (2, .int p2)]) hx hb (qaa qot 3 rfl) hl (by decide) rfl (fun ls hl => ?_)
  refine lv_aload_n hx hb (qaa qot 4 rfl) rfl (lv_at hl 2 rfl) ?_
  refine va_get (D := (dC, dI)) (ci := 6) (v := .ref jch) (C := RX6) (T := TX6) (N := 3) hx hb hts qaid hown hK hP 0 rfl rfl 1 (by decide) (hts _ q7p) (fun _ h9 => h9) rfl (qaa qot 5 rfl) ?_
  refine lv_iconst (v := 0) hx hb (qaa qot 6 rfl) (by decide) ?_
  refine lv_iconst (v := 0) hx hb (qaa qot 7 rfl) (by decide) ?_
  refine va_iast hx hb hK hP hD hS 1 1 rfl rfl (vin (by decide)) (qaa qot 8 rfl) (fun H locs hP hD hS => ?_)
  obtain ⟨f1, ef1⟩ : ∃ y : NI, y = upd jdE (0 : Int32).toNatClampNeg 0 := ⟨_, rfl⟩
  have hw := hw f1 ef1
  have hP : va_P (dC, dI) vwCl (qFu a0 jjR jch jjf jch cyI f1 a1 jj5 jj6 jlD jlE jmi jk8 jlX jlF jks jlY jlf jlG jjR cyI jkR jj5 cyI jkM jj6 cyI jkN) H := by rw [ef1]; exact hP
  have hD : va_D A (qFu a0 jjR jch jjf jch cyI f1 a1 jj5 jj6 jlD jlE jmi jk8 jlX jlF jks jlY jlf jlG jjR cyI jkR jj5 cyI jkM jj6 cyI jkN) := by rw [ef1]; exact hD
  refine lv_iconst (v := 1) hx hb (qaa qot 9 rfl) (by decide) ?_
  refine lv_istore (lv' := [(5, .int 1), (4, .int 0), (3, .int p2), (0, .ref a0), (1, .ref a1), (2, .int p2)]) hx hb (qaa qot 10 rfl) hl (by decide) rfl (fun ls hl => ?_)
  obtain ⟨n9, hw⟩ := hw
  exact qaQP dC dI cyB cyI cyJ cyP a0 a1 jch jjR jj5 jj6 jjf jlD jlE jmi jk8 jlX jlF jlY jlf jlG jks jkR jkM jkN Q C0 n9 _ _ _ f1 p2 0 1 hP hD hS (lv_sub hl [3, 4, 2, 1, 0] rfl) hw
theorem q4e : ∀ w ∈ u_ws RX2 TX2 12, w ∈ wsX6_settle := uiM qvX qLp (by decide +kernel)
theorem qGN : ∀ w ∈ u_ws RX6 TX6 3, w ∈ wsX6_settle := uiM qvX euX6 (by decide +kernel)
theorem qZ8 : (.fieldLink RX6 18 "MarchHares$Ring" "length" "I" : Cond) ∈ wsX6_settle := qvX 3264 (by decide +kernel)
theorem qY7 : (.fieldLink RX6 22 "MarchHares$Down" "forms" "I" : Cond) ∈ wsX6_settle := qvX 3265 (by decide +kernel)
theorem q2d : (.fieldLink RX6 9 "MarchHares$Ring" "least" "[I" : Cond) ∈ wsX6_settle := qvX 339 (by decide +kernel)
set_option maxHeartbeats 4000000 in
set_option maxRecDepth 100000 in
theorem qaz2 {p : Program} {l : Launch} {e : Env} {s : State} {m : MethodId} {args : Array Value} {below : List Frame} {meth : Method} {c : Code} {A : Nat → Prop} (dC : Nat → ClassId) (dI : Nat → Nat → Nat) (cyB cyI cyJ cyP : ClassId) (a0 a1 jjR jj5 jj6 jch : Nat) (jlD jlE jmi jk8 jlX jlF jlY jlf jlG : Value) (jks : Int32) (jkM jkN : NI) (Q : Int32 → NI → NI → Prop) (C0 : cfx p s m args meth c cX6_settle none wsX6_settle RX6 4 A (dC, dI) (kT cyB cyI cyJ cyP)) : ∀ (n : Nat) (H : Heap) (locs : List Loc) (ls : Array Slot) (jb7 : Int32) (jkR jdE : NI) (l2 l3 : Int32), va_P (dC, dI) vwCl (qxJ a0 jjR jch jb7 a1 jj5 jj6 jlD jlE jmi jk8 jlX jlF jks jlY jlf jlG jj5 cyI jkM jj6 cyI jkN jjR cyI jkR jch cyI jdE) H → va_D A (qxJ a0 jjR jch jb7 a1 jj5 jj6 jlD jlE jmi jk8 jlX jlF jks jlY jlf jlG jj5 cyI jkM jj6 cyI jkN jjR cyI jkR jch cyI jdE) → va_S A s.heap H locs → lv_has ls 4 [(0, .ref a0), (1, .ref a1), (2, .int l2), (3, .int l3)] → qHv jks jkM jkN Q n jb7 jkR jdE l2 l3 → W p l e (headSpec wsX6_settle ({ frames := 5, cells := 0, slots := 0, locals := 129 })).room s m args below meth c H locs 0 0 (MQ below (va_Qv (fun (u : Int32 × NI × NI) => Q u.1 u.2.1 u.2.2) (cB (dC, dI) (kT cyB cyI cyJ cyP) A (fun u : Int32 × NI × NI => ((qxJ a0 jjR jch u.1 a1 jj5 jj6 jlD jlE jmi jk8 jlX jlF jks jlY jlf jlG jj5 cyI jkM jj6 cyI jkN jjR cyI u.2.1 jch cyI u.2.2) : va_W))) A) args s 0 0 A) (F0 m 26 ls []) := by
  obtain ⟨hx, hb, hr, hts, hown, hlocks, hml, hA, hK, hNw⟩ := id C0
  intro n
  induction n with
  | zero => intro H locs ls jb7 jkR jdE l2 l3 hP hD hS hl hw; exact False.elim hw
  | succ n ih =>
    intro H locs ls jb7 jkR jdE l2 l3 hP hD hS hl hw
    refine lv_iload_n hx hb (qaa qg8 2 rfl) rfl (lv_at hl 3 rfl) ?_
    refine lv_iload_n hx hb (qaa qg8 3 rfl) rfl (lv_at hl 2 rfl) ?_
    refine lv_icmp_gt (tgt := 43) hx hb (qaa qg8 4 rfl) (by decide) (fun c3 => ?_) (fun c3 => ?_)
    · have hw := hw.1 c3
      refine lv_aload_n hx hb (qaa qg8 11 rfl) rfl (lv_at hl 0 rfl) ?_
      refine va_get (D := (dC, dI)) (ci := 6) (v := .ref jjR) (C := RX6) (T := TX6) (N := 3) hx hb hts qGN hown hK hP 0 rfl rfl 0 (by decide) (hts _ q2d) (fun _ h9 => h9) rfl (qaa qg8 12 rfl) ?_
      refine lv_iload_n hx hb (qaa qg8 13 rfl) rfl (lv_at hl 2 rfl) ?_
      refine lv_bipush (v := 8) hx hb (qaa qg8 14 rfl) (by decide) ?_
      refine lv_imul hx hb (qaa qg8 15 rfl) ?_
      refine lv_topi (fun x4 ex4 => ?_)
      have hw := hw x4 ex4
      refine lv_aload_n hx hb (qaa qgW 0 rfl) rfl (lv_at hl 0 rfl) ?_
      refine lv_aload_n hx hb (qaa qgW 1 rfl) rfl (lv_at hl 1 rfl) ?_
      refine lv_iload_n hx hb (qaa qgW 2 rfl) rfl (lv_at hl 2 rfl) ?_
      refine lv_iconst (v := 0) hx hb (qaa qgW 3 rfl) (by decide) ?_
      obtain ⟨hCc, hPc, hDc, hFc⟩ := qac (ws' := (qaRD a0 jjR jch jb7 a1 jj5 jj6 jlD jlE jmi jk8 jlX jlF jks jlY jlf jlG jj5 cyI jkM jj6 cyI jkN jjR cyI jkR)) hP hD hS hA [0, 1, 2, 3, 4] (by decide +kernel) rfl
      refine va_calli (va_runV (As := [.ref a1, .int l2, .int 0]) (rest := [.int x4, .ref jjR]) ⟨hx, hb, hml, hown, hts⟩ (q8m l dC dI cyB cyI cyJ cyP a0 a1 jj5 jj6 jjR H.size (.ref jch) (.int jb7) (jlD) (jlE) (jmi) (jk8) (jlX) (jlF) (jlY) (jlf) (jlG) jks jkM jkN jkR l2 0 hw) (cwV 3 hts gX6_settle_X6_leastWay rfl rfl rfl (by decide +kernel) ⟨nbq rfl, nbq rfl⟩) ⟨qab, va_recv (q := (RX6, TX6, 3)) hK hPc (ci := 6) (q0 := 0) rfl rfl, qae hPc hK hDc hNw⟩ rfl rfl hl.1 rfl (lv_room (nbq rfl)) (qaa qgW 4 rfl) ⟨nbq rfl, nbq rfl⟩) hS (fun q _ h => hFc q h) hFc (fun r5 u t H1 locs ht hvm hw hB hz1 hk1 hS => ?_)
      obtain ⟨hP1, hK1, hD1⟩ := hB
      rw [ht] at hP1
      obtain ⟨hP, hD⟩ := qad (wr := [(jch, .inl (cyI, 8, .inl jdE))]) (w1 := (qaRD a0 jjR jch jb7 a1 jj5 jj6 jlD jlE jmi jk8 jlX jlF jks jlY jlf jlG jj5 cyI jkM jj6 cyI jkN jjR cyI jkR)) (wn := (qxJ a0 jjR jch jb7 a1 jj5 jj6 jlD jlE jmi jk8 jlX jlF jks jlY jlf jlG jj5 cyI jkM jj6 cyI jkN jjR cyI jkR jch cyI jdE)) hP hD [0, 1, 2, 3, 4] [5] [1, 2, 3, 4, 5, 0] hCc rfl (by decide +kernel) (by decide +kernel) (by decide +kernel) rfl hk1 hFc hP1 hD1
      generalize H1 = H at hP hS ⊢
      obtain ⟨hi9, hw⟩ := hw
      refine va_iast hx hb hK hP hD hS 4 1 rfl rfl hi9 (qaa qgW 5 rfl) (fun H locs hP hD hS => ?_)
      obtain ⟨f6, ef6⟩ : ∃ y : NI, y = upd jkR x4.toNatClampNeg r5 := ⟨_, rfl⟩
      have hw := hw f6 ef6
      have hP : va_P (dC, dI) vwCl (qxJ a0 jjR jch jb7 a1 jj5 jj6 jlD jlE jmi jk8 jlX jlF jks jlY jlf jlG jj5 cyI jkM jj6 cyI jkN jjR cyI f6 jch cyI jdE) H := by rw [ef6]; exact hP
      have hD : va_D A (qxJ a0 jjR jch jb7 a1 jj5 jj6 jlD jlE jmi jk8 jlX jlF jks jlY jlf jlG jj5 cyI jkM jj6 cyI jkN jjR cyI f6 jch cyI jdE) := by rw [ef6]; exact hD
      refine lv_aload_n hx hb (qaa qgW 6 rfl) rfl (lv_at hl 0 rfl) ?_
      refine lv_aload_n hx hb (qaa qgW 7 rfl) rfl (lv_at hl 0 rfl) ?_
      refine va_get (D := (dC, dI)) (ci := 6) (v := .ref jjR) (C := RX6) (T := TX6) (N := 3) hx hb hts qGN hown hK hP 0 rfl rfl 0 (by decide) (hts _ q2d) (fun _ h9 => h9) rfl (qaa qgW 8 rfl) ?_
      refine lv_iload_n hx hb (qaa qgW 9 rfl) rfl (lv_at hl 2 rfl) ?_
      refine lv_bipush (v := 8) hx hb (qaa qgW 10 rfl) (by decide) ?_
      refine lv_imul hx hb (qaa qgW 11 rfl) ?_
      refine lv_topi (fun x7 ex7 => ?_)
      have hw := hw x7 ex7
      obtain ⟨hi9, hw⟩ := hw
      refine va_iald hx hb hK hP 4 1 rfl rfl hi9 (qaa qgW 12 rfl) ?_
      refine lv_topi (fun x8 ex8 => ?_)
      have hw := hw x8 ex8
      refine va_put (D := (dC, dI)) (ci := 6) (v := .int x8) (ty := .int) (C := RX6) (T := TX6) (N := 3) hx hb hts qGN tyX6 tyX6_ok nmX6 hown hK hP hD hS 0 rfl rfl 2 (by decide) (hts _ qZ8) (fun _ h9 => h9) rfl (by decide +kernel) rfl rfl (nbq rfl) (qaa qgW 13 rfl) (fun H locs hP hD hS => ?_)
      have hP : va_P (dC, dI) vwCl (qxJ a0 jjR jch x8 a1 jj5 jj6 jlD jlE jmi jk8 jlX jlF jks jlY jlf jlG jj5 cyI jkM jj6 cyI jkN jjR cyI f6 jch cyI jdE) H := hP
      have hD : va_D A (qxJ a0 jjR jch x8 a1 jj5 jj6 jlD jlE jmi jk8 jlX jlF jks jlY jlf jlG jj5 cyI jkM jj6 cyI jkN jjR cyI f6 jch cyI jdE) := hD
      refine lv_aload_n hx hb (qaa qgW 14 rfl) rfl (lv_at hl 0 rfl) ?_
      refine lv_aload_n hx hb (qaa qgW 15 rfl) rfl (lv_at hl 1 rfl) ?_
      refine lv_iload_n hx hb (qaa qOT 0 rfl) rfl (lv_at hl 2 rfl) ?_
      obtain ⟨hCc, hPc, hDc, hFc⟩ := qac (ws' := (qa6Z a0 jjR jch x8 jch cyI jdE a1 jj5 jj6 jlD jlE jmi jk8 jlX jlF jks jlY jlf jlG jjR cyI f6 jj5 cyI jkM jj6 cyI jkN)) hP hD hS hA [0, 5, 1, 4, 2, 3] (by decide +kernel) rfl
      refine va_callv (va_runV (As := [.ref a1, .int l2]) (rest := []) ⟨hx, hb, hml, hown, hts⟩ (qa2n l dC dI cyB cyI cyJ cyP a0 a1 jch jjR jj5 jj6 H.size (.int x8) (jlD) (jlE) (jmi) (jk8) (jlX) (jlF) (jlY) (jlf) (jlG) jks f6 jkM jkN jdE l2 hw) (cwV 2 hts gX6_settle_X6_walk rfl rfl rfl (by decide +kernel) ⟨nbq rfl, nbq rfl⟩) ⟨qab, va_recv (q := (RX6, TX6, 3)) hK hPc (ci := 6) (q0 := 0) rfl rfl, qae hPc hK hDc hNw⟩ rfl rfl hl.1 rfl (lv_room (nbq rfl)) (qaa qOT 1 rfl) ⟨nbq rfl, nbq rfl⟩) hS (fun q _ h => hFc q h) hFc (fun u t H1 locs ht hvm hw hB hz1 hk1 hS => ?_)
      obtain ⟨f9, rfl⟩ : ∃ z, z = u := ⟨_, rfl⟩
      obtain ⟨hP1, hK1, hD1⟩ := hB
      rw [ht] at hP1
      obtain ⟨hP, hD⟩ := qad (wr := []) (w1 := (qa6Z a0 jjR jch x8 jch cyI f9 a1 jj5 jj6 jlD jlE jmi jk8 jlX jlF jks jlY jlf jlG jjR cyI f6 jj5 cyI jkM jj6 cyI jkN)) (wn := (qxJ a0 jjR jch x8 a1 jj5 jj6 jlD jlE jmi jk8 jlX jlF jks jlY jlf jlG jj5 cyI jkM jj6 cyI jkN jjR cyI f6 jch cyI f9)) hP hD [0, 5, 1, 4, 2, 3] [] [0, 2, 4, 5, 3, 1] hCc rfl (by decide +kernel) (by decide +kernel) (by decide +kernel) rfl hk1 hFc hP1 hD1
      generalize H1 = H at hP hS ⊢
      exact ((W.vret hx hb hr (fun t ht hW => ⟨⟨(x8, f6, f9), rfl, hw, by rw [ht]; exact hP, va_K.moved hW.alike hK, hD⟩, hS.F ht⟩) hS.2.2 (qaa qOT 2 rfl)))
    · have hw := hw.2 c3
      refine lv_aload_n hx hb (qaa qg8 5 rfl) rfl (lv_at hl 0 rfl) ?_
      refine lv_aload_n hx hb (qaa qg8 6 rfl) rfl (lv_at hl 1 rfl) ?_
      refine lv_iload_n hx hb (qaa qg8 7 rfl) rfl (lv_at hl 3 rfl) ?_
      obtain ⟨hCc, hPc, hDc, hFc⟩ := qac (ws' := (qaRD a0 jjR jch jb7 a1 jj5 jj6 jlD jlE jmi jk8 jlX jlF jks jlY jlf jlG jj5 cyI jkM jj6 cyI jkN jjR cyI jkR)) hP hD hS hA [0, 1, 2, 3, 4] (by decide +kernel) rfl
      refine va_callv (va_runV (As := [.ref a1, .int l3]) (rest := []) ⟨hx, hb, hml, hown, hts⟩ (qazZ l dC dI cyB cyI cyJ cyP a0 a1 jjR jj5 jj6 H.size (.ref jch) (.int jb7) (jlD) (jlE) (jmi) (jk8) (jlX) (jlF) (jlY) (jlf) (jlG) jks jkM jkN jkR l3 hw) (cwV 2 hts gX6_settle_X6_settleFor rfl rfl rfl (by decide +kernel) ⟨nbq rfl, nbq rfl⟩) ⟨qab, va_recv (q := (RX6, TX6, 3)) hK hPc (ci := 6) (q0 := 0) rfl rfl, qae hPc hK hDc hNw⟩ rfl rfl hl.1 rfl (lv_room (nbq rfl)) (qaa qg8 8 rfl) ⟨nbq rfl, nbq rfl⟩) hS (fun q _ h => hFc q h) hFc (fun u t H1 locs ht hvm hw hB hz1 hk1 hS => ?_)
      obtain ⟨f10, rfl⟩ : ∃ z, z = u := ⟨_, rfl⟩
      obtain ⟨hP1, hK1, hD1⟩ := hB
      rw [ht] at hP1
      obtain ⟨hP, hD⟩ := qad (wr := [(jch, .inl (cyI, 8, .inl jdE))]) (w1 := (qaRD a0 jjR jch jb7 a1 jj5 jj6 jlD jlE jmi jk8 jlX jlF jks jlY jlf jlG jj5 cyI jkM jj6 cyI jkN jjR cyI f10)) (wn := (qxJ a0 jjR jch jb7 a1 jj5 jj6 jlD jlE jmi jk8 jlX jlF jks jlY jlf jlG jj5 cyI jkM jj6 cyI jkN jjR cyI f10 jch cyI jdE)) hP hD [0, 1, 2, 3, 4] [5] [1, 2, 3, 4, 5, 0] hCc rfl (by decide +kernel) (by decide +kernel) (by decide +kernel) rfl hk1 hFc hP1 hD1
      generalize H1 = H at hP hS ⊢
      obtain ⟨x11, ex11⟩ : ∃ y : Int32, y = l3 + 1 := ⟨_, rfl⟩
      have hw := hw x11 ex11
      refine lv_iinc (v := x11) (lv' := [(3, .int x11), (0, .ref a0), (1, .ref a1), (2, .int l2)]) hx hb (qaa qg8 9 rfl) hl (k := 3) rfl (by rw [ex11]; rfl) (by decide) rfl (fun ls hl => ?_)
      refine lv_goto (tgt := 26) hx hb (qaa qg8 10 rfl) (by decide) ?_
      exact ih _ _ _ jb7 f10 jdE l2 x11 hP hD hS (lv_sub hl [1, 2, 3, 0] rfl) hw
set_option maxHeartbeats 4000000 in
set_option maxRecDepth 100000 in
theorem qaoc (l : Launch) (dC : Nat → ClassId) (dI : Nat → Nat → Nat) (cyB cyI cyJ cyP : ClassId) (a0 a1 jjR jj5 jj6 jch sz : Nat) (jlD jlE jmi jk8 jlX jlF jlY jlf jlG : Value) (jks : Int32) (jkM jkN : NI) (jb7 : Int32) (jkR jdE : NI) {Q : Int32 → NI → NI → Prop} (hw : qRG jks jkM jkN jb7 jkR jdE Q) : Met l yX6_settle wsX6_settle ({ frames := 5, cells := 0, slots := 0, locals := 129 }) (va_Pc [.ref a0, .ref a1] (cPc (dC, dI) (kT cyB cyI cyJ cyP) (qxJ a0 jjR jch jb7 a1 jj5 jj6 jlD jlE jmi jk8 jlX jlF jks jlY jlf jlG jj5 cyI jkM jj6 cyI jkN jjR cyI jkR jch cyI jdE) sz)) (va_Qv (fun (u : Int32 × NI × NI) => Q u.1 u.2.1 u.2.2) (cB (dC, dI) (kT cyB cyI cyJ cyP) (va_A (qxJ a0 jjR jch jb7 a1 jj5 jj6 jlD jlE jmi jk8 jlX jlF jks jlY jlf jlG jj5 cyI jkM jj6 cyI jkN jjR cyI jkR jch cyI jdE) sz) (fun u : Int32 × NI × NI => ((qxJ a0 jjR jch u.1 a1 jj5 jj6 jlD jlE jmi jk8 jlX jlF jks jlY jlf jlG jj5 cyI jkM jj6 cyI jkN jjR cyI u.2.1 jch cyI u.2.2) : va_W))) (va_A (qxJ a0 jjR jch jb7 a1 jj5 jj6 jlD jlE jmi jk8 jlX jlF jks jlY jlf jlG jj5 cyI jkM jj6 cyI jkN jjR cyI jkR jch cyI jdE) sz)) 0 0 (va_A (qxJ a0 jjR jch jb7 a1 jj5 jj6 jlD jlE jmi jk8 jlX jlF jks jlY jlf jlG jj5 cyI jkM jj6 cyI jkN jjR cyI jkR jch cyI jdE) sz) := by
  refine Met.ofW (cc := cX6_settle) (maxL := 4) (ret := none) (by decide) rfl ?_
  intro p e s m args below meth c s₁ B hml hv
  obtain ⟨rfl, hsz, hP, hK, hD0, hNw⟩ := hv
  have hx := B.exec
  have hb := B.bytes
  have hr := B.returns
  have hts := atoms_spec (ws := wsX6_settle) B.pre
  have hown : s.vm.findClass RX6 = some m.cls := findClass_of_methodNamed B.named
  have hlocks := B.notSynchronized
  subst hsz
  have hD := hD0.self (sz := s.heap.size)
  generalize hAe : va_A (qxJ a0 jjR jch jb7 a1 jj5 jj6 jlD jlE jmi jk8 jlX jlF jks jlY jlf jlG jj5 cyI jkM jj6 cyI jkN jjR cyI jkR jch cyI jdE) s.heap.size = A at hD ⊢
  have hA : ∀ q : Nat, s.heap.size ≤ q → A q := fun q h => by rw [← hAe]; exact Or.inr h
  have hS : va_S A s.heap s.heap [] := va_S.rf
  have hP : va_P (dC, dI) vwCl (qxJ a0 jjR jch jb7 a1 jj5 jj6 jlD jlE jmi jk8 jlX jlF jks jlY jlf jlG jj5 cyI jkM jj6 cyI jkN jjR cyI jkR jch cyI jdE) s.heap := hP
  have hl := lv_entry ([.ref a0, .ref a1]) (n := 4) (nbq rfl)
  rw [lg_entry_eq]
  generalize (lg_sl ([.ref a0, .ref a1]) ++ List.replicate (4 - (lg_sl ([.ref a0, .ref a1])).length) Slot.unset).toArray = ls at hl ⊢
  have hl : lv_has ls 4 [(0, .ref a0), (1, .ref a1)] := hl
  have C0 : cfx p s m _ meth c cX6_settle none wsX6_settle RX6 4 A (dC, dI) (kT cyB cyI cyJ cyP) := ⟨hx, hb, hr, hts, hown, hlocks, hml, hA, hK, hNw⟩
  clear hAe
  obtain ⟨H, hH⟩ : ∃ H, H = s.heap := ⟨_, rfl⟩
  rw [← hH] at hP ⊢
  have hS : va_S A s.heap H [] := by rw [hH]; exact va_S.rf
  have hS := hS
  refine lv_aload_n hx hb (qaa qj7 0 rfl) rfl (lv_at hl 0 rfl) ?_
  refine lv_iconst (v := 0) hx hb (qaa qj7 1 rfl) (by decide) ?_
  refine va_put (D := (dC, dI)) (ci := 6) (v := .int 0) (ty := .int) (C := RX6) (T := TX6) (N := 3) hx hb hts qGN tyX6 tyX6_ok nmX6 hown hK hP hD hS 0 rfl rfl 2 (by decide) (hts _ qZ8) (fun _ h9 => h9) rfl (by decide +kernel) rfl rfl (nbq rfl) (qaa qj7 2 rfl) (fun H locs hP hD hS => ?_)
  have hP : va_P (dC, dI) vwCl (qxJ a0 jjR jch 0 a1 jj5 jj6 jlD jlE jmi jk8 jlX jlF jks jlY jlf jlG jj5 cyI jkM jj6 cyI jkN jjR cyI jkR jch cyI jdE) H := hP
  have hD : va_D A (qxJ a0 jjR jch 0 a1 jj5 jj6 jlD jlE jmi jk8 jlX jlF jks jlY jlf jlG jj5 cyI jkM jj6 cyI jkN jjR cyI jkR jch cyI jdE) := hD
  refine lv_aload_n hx hb (qaa qj7 3 rfl) rfl (lv_at hl 1 rfl) ?_
  refine va_get (D := (dC, dI)) (ci := 2) (v := .int jks) (C := RX2) (T := TX2) (N := 12) hx hb hts q4e hown hK hP 1 rfl rfl 8 (by decide) (hts _ qY7) (fun _ h9 => h9) rfl (qaa qj7 4 rfl) ?_
  refine lv_if_ne (tgt := 13) hx hb (qaa qj7 5 rfl) (by decide) (fun c1 => ?_) (fun c1 => ?_)
  · have hw := hw.1 c1
    refine lv_iconst (v := 1) hx hb (qaa qj7 7 rfl) (by decide) ?_
    refine lv_aload_n hx hb (qaa qj7 8 rfl) rfl (lv_at hl 1 rfl) ?_
    refine va_get (D := (dC, dI)) (ci := 2) (v := .int jks) (C := RX2) (T := TX2) (N := 12) hx hb hts q4e hown hK hP 1 rfl rfl 8 (by decide) (hts _ qY7) (fun _ h9 => h9) rfl (qaa qj7 9 rfl) ?_
    refine lv_iconst (v := 1) hx hb (qaa qj7 10 rfl) (by decide) ?_
    refine lv_isub hx hb (qaa qj7 11 rfl) ?_
    refine lv_ishl hx hb (qaa qj7 12 rfl) ?_
    refine lv_iconst (v := 1) hx hb (qaa qj7 13 rfl) (by decide) ?_
    refine lv_isub hx hb (qaa qj7 14 rfl) ?_
    refine lv_topi (fun x2 ex2 => ?_)
    have hw := hw x2 ex2
    refine lv_istore_n (lv' := [(2, .int x2), (0, .ref a0), (1, .ref a1)]) hx hb (qaa qj7 15 rfl) rfl hl (by decide) rfl (fun ls hl => ?_)
    refine lv_iconst (v := 0) hx hb (qaa qg8 0 rfl) (by decide) ?_
    refine lv_istore_n (lv' := [(3, .int 0), (2, .int x2), (0, .ref a0), (1, .ref a1)]) hx hb (qaa qg8 1 rfl) rfl hl (by decide) rfl (fun ls hl => ?_)
    obtain ⟨n9, hw⟩ := hw
    exact qaz2 dC dI cyB cyI cyJ cyP a0 a1 jjR jj5 jj6 jch jlD jlE jmi jk8 jlX jlF jlY jlf jlG jks jkM jkN Q C0 n9 _ _ _ 0 jkR jdE x2 0 hP hD hS (lv_sub hl [2, 3, 1, 0] rfl) hw
  · have hw := hw.2 c1
    exact ((W.vret hx hb hr (fun t ht hW => ⟨⟨(0, jkR, jdE), rfl, hw, by rw [ht]; exact hP, va_K.moved hW.alike hK, hD⟩, hS.F ht⟩) hS.2.2 (qaa qj7 6 rfl)))
theorem qCK : ∀ w ∈ u_ws RX10 TX10 19, w ∈ wsX10_ringed := uiM qt1 qyN (by decide +kernel)
theorem qatI : ∀ w ∈ u_ws RX2 TX2 12, w ∈ wsX10_ringed := uiM qt1 qLp (by decide +kernel)
theorem qas6 : ∀ w ∈ u_ws RX6 TX6 3, w ∈ wsX10_ringed := uiM qt1 euX6 (by decide +kernel)
theorem qaev : (.fieldLink RX10 149 "MarchHares$Down" "forms" "I" : Cond) ∈ wsX10_ringed := qt1 1557 (by decide +kernel)
theorem qVC : (.fieldLink RX10 19 "MarchHares" "ground" "LMarchHares$Down;" : Cond) ∈ wsX10_ringed := qt1 20 (by decide +kernel)
theorem qahw : (.fieldLink RX10 326 "MarchHares$Ring" "row" "[I" : Cond) ∈ wsX10_ringed := qt1 3344 (by decide +kernel)
theorem qVj : (.fieldLink RX10 79 "MarchHares" "round" "LMarchHares$Ring;" : Cond) ∈ wsX10_ringed := qt1 129 (by decide +kernel)
set_option maxHeartbeats 4000000 in
set_option maxRecDepth 100000 in
theorem qZ1 {p : Program} {l : Launch} {e : Env} {s : State} {m : MethodId} {args : Array Value} {below : List Frame} {meth : Method} {c : Code} {A : Nat → Prop} (dC : Nat → ClassId) (dI : Nat → Nat → Nat) (cyB cyI cyJ cyP : ClassId) (a0 jaR jma jbs jbt jlI jlZ : Nat) (jaK ja1 jcp jbc jbV ja3 jbH ja2 jbO jaq jac jbl jbn jba jaa jbA jbo jbp jbk jbj jbf jbq jgP jbi jcd : Value) (jbE : Int32) (jci jcj : NI) (E : String → Int32 → Int32 → NI → NI → Prop) (Q : Int32 → Int32 → Int32 → NI → NI → Prop) (C0 : cfx p s m args meth c cX10_ringed (some .int) wsX10_ringed RX10 2 A (dC, dI) (kT cyB cyI cyJ cyP) ∧ cfX l s c A) : ∀ (H : Heap) (locs : List Loc) (ls : Array Slot) (jbz jmG : Int32) (jmN jnh : NI) (l1 s1 : Int32), va_P (dC, dI) vwCl (qBU a0 jaK jaR ja1 jcp jbc jbV ja3 jbH ja2 jbO jaq jac jma jbl jbn jba jaa jbA jbz jaR jbs jbt jbo jbp jbk jbj jbf jbq jbE jgP jbi jcd jma jlI jlZ jmG jbs cyI jci jbt cyI jcj jlI cyI jmN jlZ cyI jnh) H → va_D A (qBU a0 jaK jaR ja1 jcp jbc jbV ja3 jbH ja2 jbO jaq jac jma jbl jbn jba jaa jbA jbz jaR jbs jbt jbo jbp jbk jbj jbf jbq jbE jgP jbi jcd jma jlI jlZ jmG jbs cyI jci jbt cyI jcj jlI cyI jmN jlZ cyI jnh) → va_S A s.heap H locs → lv_has ls 2 [(0, .ref a0), (1, .int l1)] → qMc jbE jci jcj E Q jbz jmG jmN jnh l1 s1 → W p l e (headSpec wsX10_ringed ({ frames := 7, cells := 1, slots := 6, locals := 152 })).room s m args below meth c H locs 0 0 (vx_MQ below (va_Qi (fun (r : Int32) (u : Int32 × Int32 × NI × NI) => Q r u.1 u.2.1 u.2.2.1 u.2.2.2) (cB (dC, dI) (kT cyB cyI cyJ cyP) A (fun u : Int32 × Int32 × NI × NI => ((qBU a0 jaK jaR ja1 jcp jbc jbV ja3 jbH ja2 jbO jaq jac jma jbl jbn jba jaa jbA u.1 jaR jbs jbt jbo jbp jbk jbj jbf jbq jbE jgP jbi jcd jma jlI jlZ u.2.1 jbs cyI jci jbt cyI jcj jlI cyI u.2.2.1 jlZ cyI u.2.2.2) : va_W))) A) (vx_X (fun _ => True) (fun (en : String) (u : Int32 × Int32 × NI × NI) (t : State) => E en u.1 u.2.1 u.2.2.1 u.2.2.2 ∧ cB (dC, dI) (kT cyB cyI cyJ cyP) A (fun u : Int32 × Int32 × NI × NI => ((qBU a0 jaK jaR ja1 jcp jbc jbV ja3 jbH ja2 jbO jaq jac jma jbl jbn jba jaa jbA u.1 jaR jbs jbt jbo jbp jbk jbj jbf jbq jbE jgP jbi jcd jma jlI jlZ u.2.1 jbs cyI jci jbt cyI jcj jlI cyI u.2.2.1 jlZ cyI u.2.2.2) : va_W)) u t) A) args s 1 6 A) (F0 m 10 ls [.int s1, .ref a0]) := by
  obtain ⟨⟨hx, hb, hr, hts, hown, hlocks, hml, hA, hK, hNw⟩, hXs⟩ := id C0
  have hY := hXs.2
  intro H locs ls jbz jmG jmN jnh l1 s1 hP hD hS hl hw
  obtain ⟨hCc, hPc, hDc, hFc⟩ := qac (ws' := (qaRs a0 jaK jaR ja1 jcp jbc jbV ja3 jbH ja2 jbO jaq jac jma jbl jbn jba jaa jbA jbz)) hP hD hS hA [0] (by decide +kernel) rfl
  refine vx_callv (vx_runV (As := [.int s1]) (rest := []) ⟨hx, hb, hml, hown, hts⟩ (qZk l dC dI cyB cyI cyJ cyP a0 H.size (jaK) (.ref jaR) (ja1) (jcp) (jbc) (jbV) (ja3) (jbH) (ja2) (jbO) (jaq) (jac) (.ref jma) (jbl) (jbn) (jba) (jaa) (jbA) jbz s1 hw) (cwV 1 hts gX10_ringed_X10_needLegal rfl rfl rfl (by decide +kernel) ⟨nbq rfl, nbq rfl⟩) ⟨qav, va_recv (q := (RX10, TX10, 19)) hK hPc (ci := 10) (q0 := 0) rfl rfl, qbl hPc hK hDc hNw hY hS hFc⟩ rfl rfl hl.1 rfl (lv_room (nbq rfl)) (qaa qhZ 6 rfl) ⟨nbq rfl, nbq rfl⟩) hS (fun q _ h => hFc q h) hFc (fun q _ h => hFc q h) (fun en ce q9 u t H1 locs ht hvm hpx hB hz1 hk1 hS hc9 hv9 hcl9 => ?_) (fun u t H1 locs ht hvm hw hB hz1 hk1 hS => ?_)
  · obtain ⟨x2, rfl⟩ : ∃ z, z = u := ⟨_, rfl⟩
    obtain ⟨hw, hP1, hK1, hD1⟩ := hB
    rw [ht] at hP1
    obtain ⟨hP, hD⟩ := qad (wr := (qa7R jaR jbs jbt jbo jbp jbk jbj jbf jbq jbE jgP jbi jcd jma jlI jlZ jmG jbs cyI jci jbt cyI jcj jlI cyI jmN jlZ cyI jnh)) (w1 := (qaRs a0 jaK jaR ja1 jcp jbc jbV ja3 jbH ja2 jbO jaq jac jma jbl jbn jba jaa jbA x2)) (wn := (qBU a0 jaK jaR ja1 jcp jbc jbV ja3 jbH ja2 jbO jaq jac jma jbl jbn jba jaa jbA x2 jaR jbs jbt jbo jbp jbk jbj jbf jbq jbE jgP jbi jcd jma jlI jlZ jmG jbs cyI jci jbt cyI jcj jlI cyI jmN jlZ cyI jnh)) hP hD [0] [1, 2, 3, 4, 5, 6] [6, 0, 1, 2, 3, 4, 5] hCc rfl (by decide +kernel) (by decide +kernel) (by decide +kernel) rfl hk1 hFc hP1 hD1
    generalize H1 = H at hP hS hc9 ⊢
    exact vx_out (fun x hx9 => (hXs.1 x hx9).elim) hlocks hc9 hv9 hcl9 (fun t2 ht2 hal2 => ⟨(x2, jmG, jmN, jnh), trivial, ⟨hw, by rw [ht2]; exact hP, va_K.moved hal2 hK, hD⟩, hS.F ht2⟩) hS.2.2 (nbq rfl) (nbq rfl)
  obtain ⟨x2, rfl⟩ : ∃ z, z = u := ⟨_, rfl⟩
  obtain ⟨hP1, hK1, hD1⟩ := hB
  rw [ht] at hP1
  obtain ⟨hP, hD⟩ := qad (wr := (qa7R jaR jbs jbt jbo jbp jbk jbj jbf jbq jbE jgP jbi jcd jma jlI jlZ jmG jbs cyI jci jbt cyI jcj jlI cyI jmN jlZ cyI jnh)) (w1 := (qaRs a0 jaK jaR ja1 jcp jbc jbV ja3 jbH ja2 jbO jaq jac jma jbl jbn jba jaa jbA x2)) (wn := (qBU a0 jaK jaR ja1 jcp jbc jbV ja3 jbH ja2 jbO jaq jac jma jbl jbn jba jaa jbA x2 jaR jbs jbt jbo jbp jbk jbj jbf jbq jbE jgP jbi jcd jma jlI jlZ jmG jbs cyI jci jbt cyI jcj jlI cyI jmN jlZ cyI jnh)) hP hD [0] [1, 2, 3, 4, 5, 6] [6, 0, 1, 2, 3, 4, 5] hCc rfl (by decide +kernel) (by decide +kernel) (by decide +kernel) rfl hk1 hFc hP1 hD1
  generalize H1 = H at hP hS ⊢
  refine lv_iload_n hx hb (qaa qhZ 7 rfl) rfl (lv_at hl 1 rfl) ?_
  refine lv_aload_n hx hb (qaa qhZ 8 rfl) rfl (lv_at hl 0 rfl) ?_
  refine va_get (D := (dC, dI)) (ci := 10) (v := .ref jaR) (C := RX10) (T := TX10) (N := 19) hx hb hts qCK hown hK hP 0 rfl rfl 1 (by decide) (hts _ qVC) (fun _ h9 => h9) rfl (qaa qhZ 9 rfl) ?_
  refine va_get (D := (dC, dI)) (ci := 2) (v := .int jbE) (C := RX2) (T := TX2) (N := 12) hx hb hts qatI hown hK hP 1 rfl rfl 8 (by decide) (hts _ qaev) (fun _ h9 => h9) rfl (qaa qhZ 10 rfl) ?_
  refine lv_icmp_lt (tgt := 26) hx hb (qaa qhZ 11 rfl) (by decide) (fun c3 => ?_) (fun c3 => ?_)
  · have hw := hw.1 c3
    refine lv_aload_n hx hb (qaa qhZ 14 rfl) rfl (lv_at hl 0 rfl) ?_
    refine va_get (D := (dC, dI)) (ci := 10) (v := .ref jma) (C := RX10) (T := TX10) (N := 19) hx hb hts qCK hown hK hP 0 rfl rfl 12 (by decide) (hts _ qVj) (fun _ h9 => h9) rfl (qaa qhZ 15 rfl) ?_
    refine lv_aload_n hx hb (qaa qqQ 0 rfl) rfl (lv_at hl 0 rfl) ?_
    refine va_get (D := (dC, dI)) (ci := 10) (v := .ref jaR) (C := RX10) (T := TX10) (N := 19) hx hb hts qCK hown hK hP 0 rfl rfl 1 (by decide) (hts _ qVC) (fun _ h9 => h9) rfl (qaa qqQ 1 rfl) ?_
    obtain ⟨hCc, hPc, hDc, hFc⟩ := qac (ws' := (qxJ jma jlI jlZ jmG jaR jbs jbt jbo jbp jbk jbj jbf jbq jbE jgP jbi jcd jbs cyI jci jbt cyI jcj jlI cyI jmN jlZ cyI jnh)) hP hD hS hA [2, 1, 3, 4, 5, 6] (by decide +kernel) rfl
    refine va_callv (va_runV (As := [.ref jaR]) (rest := []) ⟨hx, hb, hml, hown, hts⟩ (qaoc l dC dI cyB cyI cyJ cyP jma jaR jlI jbs jbt jlZ H.size (jbo) (jbp) (jbk) (jbj) (jbf) (jbq) (jgP) (jbi) (jcd) jbE jci jcj jmG jmN jnh hw) (cwV 1 hts gX10_ringed_X6_settle rfl rfl rfl (by decide +kernel) ⟨nbq rfl, nbq rfl⟩) ⟨qab, va_recv (q := (RX6, TX6, 3)) hK hPc (ci := 6) (q0 := 0) rfl rfl, qae hPc hK hDc hNw⟩ rfl rfl hl.1 rfl (lv_room (nbq rfl)) (qaa qqQ 2 rfl) ⟨nbq rfl, nbq rfl⟩) hS (fun q _ h => hFc q h) hFc (fun u t H1 locs ht hvm hw hB hz1 hk1 hS => ?_)
    obtain ⟨x4, f5, f6⟩ := u
    obtain ⟨hP1, hK1, hD1⟩ := hB
    rw [ht] at hP1
    obtain ⟨hP, hD⟩ := qad (wr := (qaRs a0 jaK jaR ja1 jcp jbc jbV ja3 jbH ja2 jbO jaq jac jma jbl jbn jba jaa jbA x2)) (w1 := (qxJ jma jlI jlZ x4 jaR jbs jbt jbo jbp jbk jbj jbf jbq jbE jgP jbi jcd jbs cyI jci jbt cyI jcj jlI cyI f5 jlZ cyI f6)) (wn := (qBU a0 jaK jaR ja1 jcp jbc jbV ja3 jbH ja2 jbO jaq jac jma jbl jbn jba jaa jbA x2 jaR jbs jbt jbo jbp jbk jbj jbf jbq jbE jgP jbi jcd jma jlI jlZ x4 jbs cyI jci jbt cyI jcj jlI cyI f5 jlZ cyI f6)) hP hD [2, 1, 3, 4, 5, 6] [0] [0, 2, 1, 3, 4, 5, 6] hCc rfl (by decide +kernel) (by decide +kernel) (by decide +kernel) rfl hk1 hFc hP1 hD1
    generalize H1 = H at hP hS ⊢
    refine lv_aload_n hx hb (qaa qqQ 3 rfl) rfl (lv_at hl 0 rfl) ?_
    refine va_get (D := (dC, dI)) (ci := 10) (v := .ref jma) (C := RX10) (T := TX10) (N := 19) hx hb hts qCK hown hK hP 0 rfl rfl 12 (by decide) (hts _ qVj) (fun _ h9 => h9) rfl (qaa qqQ 4 rfl) ?_
    refine va_get (D := (dC, dI)) (ci := 6) (v := .ref jlZ) (C := RX6) (T := TX6) (N := 3) hx hb hts qas6 hown hK hP 2 rfl rfl 1 (by decide) (hts _ qahw) (fun _ h9 => h9) rfl (qaa qqQ 5 rfl) ?_
    refine lv_iload_n hx hb (qaa qqQ 6 rfl) rfl (lv_at hl 1 rfl) ?_
    obtain ⟨hi9, hw⟩ := hw
    refine va_iald hx hb hK hP 6 1 rfl rfl hi9 (qaa qqQ 7 rfl) ?_
    refine lv_topi (fun x7 ex7 => ?_)
    have hw := hw x7 ex7
    exact vx_ret (W.widen (k := 1) (n := 6) (nbq rfl) (nbq rfl) (W.iret (v := x7) hx hb hr (fun t ht hW => ⟨⟨x7, (x2, x4, f5, f6), rfl, hw, by rw [ht]; exact hP, va_K.moved hW.alike hK, hD⟩, hS.F ht⟩) hS.2.2 (qaa qqQ 8 rfl)))
  · have hw := hw.2 c3
    refine lv_iconst (v := (-1)) hx hb (qaa qhZ 12 rfl) (by decide) ?_
    exact vx_ret (W.widen (k := 1) (n := 6) (nbq rfl) (nbq rfl) (W.iret (v := (-1)) hx hb hr (fun t ht hW => ⟨⟨(-1), (x2, jmG, jmN, jnh), rfl, hw, by rw [ht]; exact hP, va_K.moved hW.alike hK, hD⟩, hS.F ht⟩) hS.2.2 (qaa qhZ 13 rfl)))
set_option maxHeartbeats 4000000 in
set_option maxRecDepth 100000 in
theorem qaOs (l : Launch) (dC : Nat → ClassId) (dI : Nat → Nat → Nat) (cyB cyI cyJ cyP : ClassId) (a0 jaR jma jbs jbt jlI jlZ sz : Nat) (jaK ja1 jcp jbc jbV ja3 jbH ja2 jbO jaq jac jbl jbn jba jaa jbA jbo jbp jbk jbj jbf jbq jgP jbi jcd : Value) (jbE : Int32) (jci jcj : NI) (jbz jmG : Int32) (jmN jnh : NI) (p1 : Int32) {E : String → Int32 → Int32 → NI → NI → Prop} {Q : Int32 → Int32 → Int32 → NI → NI → Prop} (hw : qWV jbE jci jcj jbz jmG jmN jnh p1 E Q) : vx_Met l yX10_ringed wsX10_ringed ({ frames := 7, cells := 1, slots := 6, locals := 152 }) (va_Pc [.ref a0, .int p1] (cPx l (dC, dI) (kT cyB cyI cyJ cyP) (qBU a0 jaK jaR ja1 jcp jbc jbV ja3 jbH ja2 jbO jaq jac jma jbl jbn jba jaa jbA jbz jaR jbs jbt jbo jbp jbk jbj jbf jbq jbE jgP jbi jcd jma jlI jlZ jmG jbs cyI jci jbt cyI jcj jlI cyI jmN jlZ cyI jnh) sz)) (va_Qi (fun (r : Int32) (u : Int32 × Int32 × NI × NI) => Q r u.1 u.2.1 u.2.2.1 u.2.2.2) (cB (dC, dI) (kT cyB cyI cyJ cyP) (va_A (qBU a0 jaK jaR ja1 jcp jbc jbV ja3 jbH ja2 jbO jaq jac jma jbl jbn jba jaa jbA jbz jaR jbs jbt jbo jbp jbk jbj jbf jbq jbE jgP jbi jcd jma jlI jlZ jmG jbs cyI jci jbt cyI jcj jlI cyI jmN jlZ cyI jnh) sz) (fun u : Int32 × Int32 × NI × NI => ((qBU a0 jaK jaR ja1 jcp jbc jbV ja3 jbH ja2 jbO jaq jac jma jbl jbn jba jaa jbA u.1 jaR jbs jbt jbo jbp jbk jbj jbf jbq jbE jgP jbi jcd jma jlI jlZ u.2.1 jbs cyI jci jbt cyI jcj jlI cyI u.2.2.1 jlZ cyI u.2.2.2) : va_W))) (va_A (qBU a0 jaK jaR ja1 jcp jbc jbV ja3 jbH ja2 jbO jaq jac jma jbl jbn jba jaa jbA jbz jaR jbs jbt jbo jbp jbk jbj jbf jbq jbE jgP jbi jcd jma jlI jlZ jmG jbs cyI jci jbt cyI jcj jlI cyI jmN jlZ cyI jnh) sz)) (vx_X (fun _ => True) (fun (en : String) (u : Int32 × Int32 × NI × NI) (t : State) => E en u.1 u.2.1 u.2.2.1 u.2.2.2 ∧ cB (dC, dI) (kT cyB cyI cyJ cyP) (va_A (qBU a0 jaK jaR ja1 jcp jbc jbV ja3 jbH ja2 jbO jaq jac jma jbl jbn jba jaa jbA jbz jaR jbs jbt jbo jbp jbk jbj jbf jbq jbE jgP jbi jcd jma jlI jlZ jmG jbs cyI jci jbt cyI jcj jlI cyI jmN jlZ cyI jnh) sz) (fun u : Int32 × Int32 × NI × NI => ((qBU a0 jaK jaR ja1 jcp jbc jbV ja3 jbH ja2 jbO jaq jac jma jbl jbn jba jaa jbA u.1 jaR jbs jbt jbo jbp jbk jbj jbf jbq jbE jgP jbi jcd jma jlI jlZ u.2.1 jbs cyI jci jbt cyI jcj jlI cyI u.2.2.1 jlZ cyI u.2.2.2) : va_W)) u t) (va_A (qBU a0 jaK jaR ja1 jcp jbc jbV ja3 jbH ja2 jbO jaq jac jma jbl jbn jba jaa jbA jbz jaR jbs jbt jbo jbp jbk jbj jbf jbq jbE jgP jbi jcd jma jlI jlZ jmG jbs cyI jci jbt cyI jcj jlI cyI jmN jlZ cyI jnh) sz)) 1 6 (va_A (qBU a0 jaK jaR ja1 jcp jbc jbV ja3 jbH ja2 jbO jaq jac jma jbl jbn jba jaa jbA jbz jaR jbs jbt jbo jbp jbk jbj jbf jbq jbE jgP jbi jcd jma jlI jlZ jmG jbs cyI jci jbt cyI jcj jlI cyI jmN jlZ cyI jnh) sz) := by
  refine vx_ofW (cc := cX10_ringed) (maxL := 2) (ret := (some .int)) (by decide) rfl ?_
  intro p e s m args below meth c s₁ B hml hnt hv
  obtain ⟨rfl, hsz, hP, hK, hD0, hNw, hXl, hXu, hXn, hXt⟩ := hv
  have hx := B.exec
  have hb := B.bytes
  have hr := B.returns
  have hts := atoms_spec (ws := wsX10_ringed) B.pre
  have hown : s.vm.findClass RX10 = some m.cls := findClass_of_methodNamed B.named
  have hlocks := B.notSynchronized
  subst hsz
  have hD := hD0.self (sz := s.heap.size)
  generalize hAe : va_A (qBU a0 jaK jaR ja1 jcp jbc jbV ja3 jbH ja2 jbO jaq jac jma jbl jbn jba jaa jbA jbz jaR jbs jbt jbo jbp jbk jbj jbf jbq jbE jgP jbi jcd jma jlI jlZ jmG jbs cyI jci jbt cyI jcj jlI cyI jmN jlZ cyI jnh) s.heap.size = A at hD hXu hXn ⊢
  have hA : ∀ q : Nat, s.heap.size ≤ q → A q := fun q h => by rw [← hAe]; exact Or.inr h
  have hS : va_S A s.heap s.heap [] := va_S.rf
  have hP : va_P (dC, dI) vwCl (qBU a0 jaK jaR ja1 jcp jbc jbV ja3 jbH ja2 jbO jaq jac jma jbl jbn jba jaa jbA jbz jaR jbs jbt jbo jbp jbk jbj jbf jbq jbE jgP jbi jcd jma jlI jlZ jmG jbs cyI jci jbt cyI jcj jlI cyI jmN jlZ cyI jnh) s.heap := hP
  have hl := lv_entry ([.ref a0, .int p1]) (n := 2) (nbq rfl)
  rw [lg_entry_eq]
  generalize (lg_sl ([.ref a0, .int p1]) ++ List.replicate (2 - (lg_sl ([.ref a0, .int p1])).length) Slot.unset).toArray = ls at hl ⊢
  have hl : lv_has ls 2 [(0, .ref a0), (1, .int p1)] := hl
  have hY : cfY l s A := ⟨hXl, hXu, hXn, hXt⟩
  have hXs : cfX l s c A := ⟨hnt, hY⟩
  have C0 : cfx p s m _ meth c cX10_ringed (some .int) wsX10_ringed RX10 2 A (dC, dI) (kT cyB cyI cyJ cyP) ∧ cfX l s c A := ⟨⟨hx, hb, hr, hts, hown, hlocks, hml, hA, hK, hNw⟩, hXs⟩
  clear hAe
  obtain ⟨H, hH⟩ : ∃ H, H = s.heap := ⟨_, rfl⟩
  rw [← hH] at hP ⊢
  have hS : va_S A s.heap H [] := by rw [hH]; exact va_S.rf
  have hS := hS
  refine lv_aload_n hx hb (qaa qhZ 0 rfl) rfl (lv_at hl 0 rfl) ?_
  refine lv_iload_n hx hb (qaa qhZ 1 rfl) rfl (lv_at hl 1 rfl) ?_
  refine lv_if_lt (tgt := 9) hx hb (qaa qhZ 2 rfl) (by decide) (fun c1 => ?_) (fun c1 => ?_)
  · have hw := hw.1 c1
    refine lv_iconst (v := 0) hx hb (qaa qhZ 5 rfl) (by decide) ?_
    exact qZ1 dC dI cyB cyI cyJ cyP a0 jaR jma jbs jbt jlI jlZ jaK ja1 jcp jbc jbV ja3 jbH ja2 jbO jaq jac jbl jbn jba jaa jbA jbo jbp jbk jbj jbf jbq jgP jbi jcd jbE jci jcj E Q C0 _ _ _ jbz jmG jmN jnh p1 0 hP hD hS (lv_sub hl [0, 1] rfl) hw
  · have hw := hw.2 c1
    refine lv_iconst (v := 1) hx hb (qaa qhZ 3 rfl) (by decide) ?_
    refine lv_goto (tgt := 10) hx hb (qaa qhZ 4 rfl) (by decide) ?_
    exact qZ1 dC dI cyB cyI cyJ cyP a0 jaR jma jbs jbt jlI jlZ jaK ja1 jcp jbc jbV ja3 jbH ja2 jbO jaq jac jbl jbn jba jaa jbA jbo jbp jbk jbj jbf jbq jgP jbi jcd jbE jci jcj E Q C0 _ _ _ jbz jmG jmN jnh p1 1 hP hD hS (lv_sub hl [0, 1] rfl) hw
