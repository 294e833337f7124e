/** The document's sentences on texts and the tape that name an edge, in its order, each with a test of its own. */
public final class EdgesOfTextsTest {
    private static final Check CHECK = new Check();
    private static final int NONE = MarchHares.NONE;
    private static final String TWO = "form 0 0;hare 0 1;hare 0 1;";

    private static String times(int many, String text) {
        return text.repeat(many);
    }

    private static String blanks(int many) {
        return times(many, " ");
    }

    private static void down(String text, int answer, int place) {
        MarchHares x = new MarchHares();
        CHECK.due("down \"" + text + "\"", Check.down(x, text), answer);
        CHECK.due("the place in \"" + text + "\"", x.fault(), place);
    }

    private static void law(String text, int answer, int place) {
        MarchHares x = new MarchHares();
        CHECK.due("law \"" + text + "\"", Check.law(x, text), answer);
        CHECK.due("the place in \"" + text + "\"", x.fault(), place);
    }

    private static void value(String text, int out) {
        MarchHares x = new MarchHares();
        CHECK.due("law \"" + text + "\"", Check.law(x, text), 1);
        CHECK.due("what comes out of \"" + text + "\"", x.would(9, 8, 7, 6, 5, 4, 3, 2), out);
    }

    /** On a down of two hares in form 0, and of form 1. */
    private static void work(String text, int answer, int place) {
        MarchHares x = Check.of(TWO + "form 1 1;");
        CHECK.due("work \"" + text + "\"", Check.work(x, text), answer);
        CHECK.due("the place in \"" + text + "\"", x.fault(), place);
    }

    /** On a down of three forms. */
    private static void book(String text, int answer, int place) {
        MarchHares x = Check.of("form 0 0;form 1 1;form 2 2;");
        CHECK.due("book \"" + text + "\"", Check.book(x, text), answer);
        CHECK.due("the place in \"" + text + "\"", x.fault(), place);
    }

    private static void downLengths() {
        CHECK.says("A DOWN is a text of up to 600 bytes: { CLAUSE \";\" }");
        down("", 0, NONE);
        down(blanks(591) + "form 7 8;", 0, NONE);
        down(blanks(582) + "form 7 8;hare 0 1;", 1, NONE);
        down(blanks(592) + "form 7 8", -9, 600);
    }

    private static void clauses() {
        CHECK.says("at most 60. CLAUSE:");
        String most = "form0 0;hare0 1;hare0 1;" + times(57, "debt0 1 7;");
        down(most, 2, NONE);
        down(most + "fox0", -7, 594);
        down(most + " debt", -7, 595);
        down(most + "form", -7, 594);
        down(most + "hare", -7, 594);
        down(most.substring(0, most.length() - 1), -9, 593);
    }

    private static void forms() {
        CHECK.says("\"form\" X Y (FORMS, numbered from 0 on, 8 at most: it lies at X, Y, 0 to 30 both)");
        down(times(8, "form 0 0;"), 0, NONE);
        down(times(9, "form 0 0;"), -7, 72);
        down("form 31 0;", -8, 5);
        down("form 0 31;", -8, 7);
        MarchHares x = Check.of("form 0 30;form 30 0;");
        CHECK.due("X of form 0", x.form(0, 0), 0);
        CHECK.due("Y of form 0", x.form(0, 1), 30);
        CHECK.due("X of form 1", x.form(1, 0), 30);
        CHECK.due("Y of form 1", x.form(1, 1), 0);
        MarchHares eight = Check.of(times(7, "form 0 0;") + "form 3 4;");
        CHECK.due("the eighth", eight.form(7, 1), 4);
    }

    private static void hares() {
        CHECK.says("\"hare\" F S (HARES likewise, 6: sits in FORM F, told ahead, STRONG S, 1 to 9; some may sit in one)");
        down("form 0 0;" + times(6, "hare 0 1;"), 6, NONE);
        down("form 0 0;" + times(7, "hare 0 1;"), -7, 63);
        down("hare 0 1;form 0 0;", -8, 5);
        down("form 0 0;hare 1 1;form 0 0;", -8, 14);
        down("form 0 0;form 0 0;hare 2 1;", -8, 23);
        down("form 0 0;hare 0 0;", -8, 16);
        down("form 0 0;hare 0 10;", -8, 16);
        MarchHares x = Check.of("form 0 0;form 0 0;hare 1 1;hare 1 9;");
        CHECK.due("STRONG 1", x.hare(0, 1), 1);
        CHECK.due("STRONG 9", x.hare(1, 1), 9);
        CHECK.due("both in one", x.form(1, 3), 3);
        CHECK.due("none in the other", x.form(0, 3), 0);
    }

    private static void foxes() {
        CHECK.says("\"fox\" X Y (FOXES, 4 at most, 0 to 30 both)");
        down(times(4, "fox 0 0;"), 0, NONE);
        down(times(5, "fox 0 0;"), -7, 32);
        down("fox 31 0;", -8, 4);
        down("fox 0 31;", -8, 6);
        MarchHares x = Check.of("fox 0 30;fox 1 1;fox 2 2;fox 30 0;");
        CHECK.due("Y of fox 0", x.fox(0, 1), 30);
        CHECK.due("X of fox 3", x.fox(3, 0), 30);
        CHECK.due("Y of fox 3", x.fox(3, 1), 0);
    }

    private static void debts() {
        CHECK.says("\"debt\" A B N (HARE A owes B N, both told ahead, not one, 0 to 99; of one A and B the last counts)");
        down(TWO + "debt 2 0 1;hare 0 1;", -8, 32);
        down(TWO + "debt 0 2 1;hare 0 1;", -8, 34);
        down("debt 0 0 1;", -8, 5);
        down(TWO + "debt 0 0 1;", -8, 34);
        down(TWO + "debt 0 1 100;", -8, 36);
        MarchHares x = Check.of(TWO + "debt 0 1 0;debt 1 0 99;");
        CHECK.due("0", x.debt(0, 1), 0);
        CHECK.due("99", x.debt(1, 0), 99);
        MarchHares y = Check.of(TWO + "debt 0 1 9;debt 1 0 4;debt 0 1 5;");
        CHECK.due("the last counts, they are not added", y.debt(0, 1), 5);
        CHECK.due("all together", y.told(8), 9);
        CHECK.due("the last counts, also 0", Check.of(TWO + "debt 0 1 9;debt 0 1 0;").debt(0, 1), 0);
    }

    private static void lawLengths() {
        CHECK.says("A LAW is a text of up to 150 bytes: E, at the end nothing more; without: 4 + strong - still.");
        value(blanks(149) + "7", 7);
        law("1" + times(24, "+0") + blanks(100) + "+", -9, 150);
        law("7 7", -9, 2);
        law("7)", -9, 1);
        law("7;", -9, 1);
        law("7,7", -9, 1);
        law("7]", -9, 1);
        law("", -9, 0);
        CHECK.due("without", new MarchHares().would(9, 1, 0, 0, 0, 1, 0, 0), 12);
    }

    private static void leastAndMost() {
        CHECK.says("LEAP, how far a HARE leaps: what comes out, 0 at least, 60 at most.");
        value("0", 0);
        value("0-1", 0);
        value("0-999", 0);
        value("60", 60);
        value("61", 60);
        value("999*999", 60);
        MarchHares x = Check.of("form 0 0;form 30 30;form 30 29;hare 0 1;");
        Check.law(x, "999");
        CHECK.due("60 of a hare", x.hare(0, 7), 60);
        CHECK.due("60 is enough for the farthest", x.can(0, 1) ? 1 : 0, 1);
        Check.law(x, "59");
        CHECK.due("59 is not", x.can(0, 1) ? 1 : 0, 0);
        CHECK.due("59 is for 59", x.can(0, 2) ? 1 : 0, 1);
        Check.law(x, "0-5");
        CHECK.due("0 of a hare", x.hare(0, 7), 0);
    }

    private static void sums() {
        CHECK.says("E: T { + or - T }. T: U { * or / or % U }.");
        value("9-3-2", 4);
        value("9-(3-2)", 8);
        value("2+3*4", 14);
        value("2*3+4", 10);
        value("20-2*3-4", 10);
        value("48/4/2", 6);
        value("48/(4/2)", 24);
        value("7*5%4", 3);
        value("7%4*5", 15);
        value("7/2*2", 6);
        law("1+", -9, 2);
        law("1*", -9, 2);
        law("-1", -9, 0);
        law("1+-1", -9, 2);
        law("1*/2", -9, 2);
        law("2(3)", -9, 1);
    }

    private static void numbersOfLaws() {
        CHECK.says("U: N (0 to 999), \"strong\" (by now)");
        value("0", 0);
        value("999-960", 39);
        law("1000", -8, 0);
        law("1+1000", -8, 2);
    }

    private static void pairs() {
        CHECK.says("\"least\" \"[\" E \",\" E \"]\", \"most\" \"[\" E \",\" E \"]\", or \"(\" E \")\".");
        value("least[3,7]", 3);
        value("least[7,3]", 3);
        value("most[3,7]", 7);
        value("most[7,3]", 7);
        value("least[5,5]+most[5,5]", 10);
        value("10+least[0-3,0-7]", 3);
        value("10+most[0-3,0-7]", 7);
        // The whole span of 32 bits lies between these two, so that their difference would wrap.
        value("least[0-256*256*256*127,256*256*256*127]+256*256*256*127+11", 11);
        value("most[0-256*256*256*127,256*256*256*127]-256*256*256*127+11", 11);
        law("least[1]", -9, 7);
        law("least[1,2,3]", -9, 9);
        law("least[]", -9, 6);
        law("most[,1]", -9, 5);
        law("most(1,2)", -9, 4);
        law("most[1,2)", -9, 8);
        law("most", -9, 4);
        law("()", -9, 1);
        law("(1", -9, 2);
        law("(1]", -9, 2);
    }

    private static void wraps() {
        CHECK.says("Values are whole numbers of 32 bits that wrap");
        // 2 to the 31st is the least number, and one less is the greatest.
        value("256*256*256*128/(256*256*256)+150", 22);
        value("(256*256*256*128-1)/(256*256*256)-100", 27);
        value("(256*256*256*127+256*256*256)/(256*256*256)+150", 22);
        value("(0-256*256*256*127-256*256*256-1)/(256*256*256)-100", 27);
        value("256*256*256*256+7", 7);
        value("999*999*999*3/100/100/100/100+30", 17);
        value("256*256*256*128/(0-1)/(256*256*256)+150", 22);
        value("256*256*256*128%(0-1)+5", 5);
    }

    private static void divisions() {
        CHECK.says("/ cuts, % leaves (with the sign of what is divided), by 0 both are 0.");
        value("7/2", 3);
        value("(0-7)/2+10", 7);
        value("7/(0-2)+10", 7);
        value("(0-7)/(0-2)", 3);
        value("7%4", 3);
        value("(0-7)%4+10", 7);
        value("7%(0-4)", 3);
        value("(0-7)%(0-4)+10", 7);
        value("7/0+4", 4);
        value("7%0+4", 4);
        value("0/0+0%0+4", 4);
        value("(0-7)/(3-3)+4", 4);
        value("(0-7)%(3-3)+4", 4);
    }

    private static void workLengths() {
        CHECK.says("WORK is a text of up to 150 bytes: { STEP \";\" }.");
        work("", 0, NONE);
        work(blanks(150), 0, NONE);
        work(blanks(146) + "day;", 1, NONE);
        work(times(37, "day;") + "  ", 37, NONE);
        work(times(36, "day;") + "   day", -9, 150);
        work("day", -9, 3);
        work(";", -9, 0);
        work("day;;", -9, 4);
        MarchHares x = new MarchHares();
        CHECK.due("days on an empty down", Check.work(x, times(37, "day;")), 37);
        CHECK.due("behind day 31", x.told(3), 7);
        CHECK.due("no hare to leap there", Check.work(x, "leap 0 0;"), -8);
        CHECK.due("its place", x.fault(), 5);
    }

    private static void amounts() {
        CHECK.says("\"pay\" A B N (1 to 99)");
        work("pay 0 1 0;", -8, 8);
        work("pay 0 1 1;", 0, NONE);
        work("pay 0 1 99;", 0, NONE);
        work("pay 0 1 100;", -8, 8);
        MarchHares x = Check.of(TWO + "debt 0 1 99;debt 1 0 1;");
        CHECK.due("99 at once, and 1", Check.work(x, "pay 0 1 99;pay 1 0 1;"), 2);
        CHECK.due("nothing is left", x.told(8), 0);
    }

    private static void rounds() {
        CHECK.says("or \"again\" N \"[\" { STEP \";\" } \"]\" (N 0 to 40).");
        work("again 0[day;];", 0, NONE);
        work("again 1[day;];", 1, NONE);
        work("again 40[day;];", 40, NONE);
        work("again 41[day;];", -8, 6);
        work("again 2[];day;", 1, NONE);
        work("again 0[again 2[day;];day;];day;", 1, NONE);
        work("again 2[day;again 3[day;];day;];", 10, NONE);
        work("again 2[day]", -9, 11);
        work("again 2[day;]", -9, 13);
        work("again 2[day;", -9, 12);
        work("again 2 day;", -9, 8);
        work("again[day;];", -9, 5);
        work("]", -9, 0);
        work("day;];", -9, 4);
        // Faults stand in what is never done, too.
        work("again 0[leap 9 0;];", -8, 13);
    }

    private static void books() {
        CHECK.says("A BOOK is one of up to 60 bytes: { F N \";\" }, no F twice: N HARES (0 to 6) sit in FORM F.");
        book("", 0, NONE);
        book(blanks(60), 0, NONE);
        book(blanks(56) + "2 6;", 1, NONE);
        book(blanks(57) + "2 6", -9, 60);
        book("0 0;1 6;2 3;", 3, NONE);
        book("0 7;", -8, 2);
        book("3 0;", -8, 0);
        book("0 1;0 1;", -8, 4);
        book("0 1;1 1;2 1;1 1;", -8, 12);
        book("0 1;0", -8, 4);
        CHECK.due("no forms, no lines", Check.book(new MarchHares(), "0 0;"), -8);
    }

    private static void digits() {
        CHECK.says("Numbers: digits, as many as stand there");
        down("form 000000000000000000000000000030 0;", 0, NONE);
        down("form 4294967296 0;", -8, 5);
        down("form 18446744073709551616 0;", -8, 5);
        down("form " + times(300, "9") + " 0;", -8, 5);
        down("form 00;", -9, 7);
        down("form 0 0 0;", -9, 9);
        value("0000007", 7);
        law("4294967303", -8, 0);
        law("7 7", -9, 2);
        work("again 00000000002[day;];", 2, NONE);
        work("leap 4294967296 0;", -8, 5);
        book("00 06;", 1, NONE);
        book("0 4294967296;", -8, 2);
    }

    private static void words() {
        CHECK.says("WORDS: small letters, as many as stand there");
        down("forms 0 0;", -9, 0);
        down("for 0 0;", -9, 0);
        down("fo rm 0 0;", -9, 0);
        down("FORM 0 0;", -9, 0);
        down("formform 0 0;", -9, 0);
        down("forma 0 0;", -9, 0);
        down("formz 0 0;", -9, 0);
        down("form0 0;", 0, NONE);
        down("form`0 0;", -9, 4);
        down("form{0 0;", -9, 4);
        down("form 0 0;hares 0 1;", -9, 9);
        down("foxe 0 0;", -9, 0);
        down("debts 0 1 1;", -9, 0);
        law("strongly", -9, 0);
        law("stil", -9, 0);
        law("stills", -9, 0);
        law("owe", -9, 0);
        law("other", -9, 0);
        law("leap", -9, 0);
        law("leapss", -9, 0);
        law("days", -9, 0);
        law("hares", -9, 0);
        law("mosts[1,2]", -9, 0);
        law("leasta[1,2]", -9, 0);
        work("leaps 0 0;", -9, 0);
        work("boxes 0 0;", -9, 0);
        work("days;", -9, 0);
        work("dayday;", -9, 0);
        work("paya 0 1 1;", -9, 0);
        work("agains 1[];", -9, 0);
        book("form 0 0;", -9, 0);
    }

    private static void blanksAhead() {
        CHECK.says("blanks (32) may stand ahead of all these, and at the end.");
        down("  form  0  0  ;  ", 0, NONE);
        down("form0 0;hare0 1;hare0 1;debt0 1 5;fox9 9;", 2, NONE);
        down("form\t0 0;", -9, 4);
        down("form\n0 0;", -9, 4);
        down("form 0 0;\t", -9, 9);
        down("\u00a0form 0 0;", -9, 0);
        down("\u0000", -9, 0);
        value(" ( 1 + 2 ) * least [ 3 , 4 ] ", 9);
        value("(1+2)*least[3,4]", 9);
        law("1\t", -9, 1);
        work(" again 2 [ day ; ] ; ", 2, NONE);
        work("again2[day;];leap0 1;", 3, NONE);
        work("day\t;", -9, 3);
        book(" 0 1 ; 1 2 ; ", 2, NONE);
        book("0\t1;", -9, 1);
    }

    private static void firstFault() {
        CHECK.says("FAULTS, the first from the left, at its first byte");
        down("form 31 99;", -8, 5);
        down("form 0 0;hare 9 99;form x", -8, 14);
        down("form x 31;", -9, 5);
        down("form 0 0;   hares", -9, 12);
        law("1000+1000", -8, 0);
        law("1+  2000+)", -8, 4);
        law("(+1000", -9, 1);
        work("day;leap 7 7;x", -8, 9);
        work("x;leap 7 7;", -9, 0);
        book("0 8;0 8;", -8, 2);
        book("0 1;x;0 1;", -9, 4);
    }

    private static void cantStand() {
        CHECK.says("1 what can't stand there (at the length, if the text ends too early)");
        down("form", -9, 4);
        down("form ", -9, 5);
        down("form 1", -9, 6);
        down("form 1 2", -9, 8);
        down("form 1 2   ", -9, 11);
        down("form;", -9, 4);
        down("form 1;", -9, 6);
        down("form a 1;", -9, 5);
        down("form -1 1;", -9, 5);
        down("0", -9, 0);
        down("form 1 1;\u00ff", -9, 9);
        law("   ", -9, 3);
        law("1 + ", -9, 4);
        law("(1+2 ", -9, 5);
        law("least[1, ", -9, 9);
        work("leap", -9, 4);
        work("leap 0", -9, 6);
        work("leap 0 1 ", -9, 9);
        work("pay 0 1", -9, 7);
        work("again", -9, 5);
        work("again 3", -9, 7);
        work("again 3[", -9, 8);
        book("0", -9, 1);
        book("0 ", -9, 2);
        book("0 1", -9, 3);
        book("0;", -9, 1);
    }

    private static void noneSuch() {
        CHECK.says("2 a number that is none such (B of a debt as A; an F twice in a BOOK)");
        down(TWO + "debt 1 1 5;", -8, 34);
        down(TWO + "debt 1 01 5;", -8, 34);
        down(TWO + "debt 1 1", -8, 34);
        down(TWO + "debt 1 1 x", -8, 34);
        book("2 1;2 1;", -8, 4);
        book("2 1; 002 1;", -8, 5);
        book("2 1;2", -8, 4);
        book("2 1;2 9;", -8, 4);
        work("leap 2 0;", -8, 5);
        work("leap 0 2;", -8, 7);
        work("box 2 0;", -8, 4);
        work("box 0 2;", -8, 6);
        work("pay 2 0 1;", -8, 4);
        work("pay 0 2 1;", -8, 6);
        // One HARE twice is no FAULT of a WORK.
        work("box 0 0;pay 0 0 1;", 0, NONE);
    }

    private static void noneSuchOfFull() {
        CHECK.says("2 a number that is none such");
        String full = times(8, "form 0 0;") + times(6, "hare 7 1;");
        down(full + "debt 6 0 1;", -8, 131);
        down(full + "debt 0 6 1;", -8, 133);
        down(times(8, "form 0 0;") + "hare 8 1;", -8, 77);
        String[] works = {"leap 6 0;", "leap 0 8;", "box 6 0;", "box 0 6;", "pay 6 0 1;", "pay 0 6 1;"};
        int[] places = {5, 7, 4, 6, 4, 6};
        for (int text = 0; text < works.length; text++) {
            MarchHares x = Check.of(full);
            CHECK.due("work " + works[text], Check.work(x, works[text]), -8);
            CHECK.due("its place", x.fault(), places[text]);
        }
        MarchHares y = Check.of(full);
        CHECK.due("the last of all", Check.work(y, "leap 5 0;leap 5 7;box 4 5;pay 5 4 1;"), 3);
        for (String text : new String[] {"8 0;", "9 0;", "10 0;", "99999 0;"}) {
            CHECK.due("book " + text, Check.book(y, text), -8);
            CHECK.due("its place", y.fault(), 0);
        }
        String all = "0 0;1 0;2 0;3 0;4 0;5 0;6 0;7 0;";
        CHECK.due("all forms", Check.book(y, all), 8);
        CHECK.due("one of them again", Check.book(y, all + "7 0;"), -8);
        CHECK.due("its place", y.fault(), 32);
        CHECK.due("no number behind them", Check.book(y, all + "x"), -9);
        CHECK.due("its place", y.fault(), 32);
    }

    private static void tooMany() {
        CHECK.says("3 a CLAUSE, FORM, HARE or FOX too many (at its word), "
                + "or a 7th of ( least most again that is open at one time");
        down(times(8, "form 0 0;") + "  form 99 99", -7, 74);
        down("form 0 0;" + times(6, "hare 0 1;") + "hare", -7, 63);
        down(times(4, "fox 0 0;") + "fox 99", -7, 32);
        value("((((((5))))))", 5);
        law("(((((((5)))))))", -7, 6);
        value("(1)+(1)+(1)+(1)+(1)+(1)+(1)", 7);
        value("least[least[least[least[least[least[1,2],3],4],5],6],7]", 1);
        law("most[most[most[most[most[most[most[1,2],3],4],5],6],7],8]", -7, 30);
        value("most[1,most[2,most[3,most[4,most[5,most[6,7]]]]]]", 7);
        law("least[1,least[2,least[3,least[4,least[5,least[6,least[7,8]]]]]]]", -7, 48);
        law("(least[(most[(least[(1),2]),3]),4])", -7, 20);
        law("((((((least", -7, 6);
        law("((((((most", -7, 6);
        work(times(6, "again 1[") + "day;" + times(6, "];"), 1, NONE);
        work(times(7, "again 1["), -7, 48);
        work(times(6, "again 1[") + "day; again", -7, 53);
        work("again 1[];" + times(6, "again 1[") + times(6, "];"), 0, NONE);
    }

    private static void leastOfOne() {
        CHECK.says("open at one time; of one the least.");
        String most = "form0 0;hare0 1;hare0 1;" + times(57, "debt0 1 7;");
        down(most + "form", -7, 594);
        down(most + "forms", -9, 594);
        down(most + ";", -9, 594);
        down(times(8, "form 0 0;") + "hare 0 form", -9, 79);
        law("((((((1(", -9, 7);
        law("((((((1 least", -9, 8);
        law("((((((1+(", -7, 8);
        work(times(6, "again 1[") + "day again", -9, 52);
        work(times(6, "again 1[") + "day;again", -7, 52);
    }

    private static void newOne() {
        CHECK.says("`MarchHares()`: A DOWN without CLAUSES.");
        MarchHares x = new MarchHares();
        for (int what = 0; what <= 11; what++) {
            CHECK.due("told " + what, x.told(what), what == 3 ? 1 : 0);
        }
        CHECK.due("fault", x.fault(), NONE);
        CHECK.due("images", x.count(0), 0);
        CHECK.due("bytes", x.count(1), 0);
        CHECK.due("works", x.count(2), 0);
        CHECK.noSuch("form 0", () -> x.form(0, 0));
        CHECK.noSuch("hare 0", () -> x.hare(0, 0));
        CHECK.noSuch("fox 0", () -> x.fox(0, 0));
        CHECK.due("the law it has", x.would(3, 2, 0, 0, 0, 1, 0, 0), 5);
    }

    private static void feeding() {
        CHECK.says("Twenty bytes come on the TAPE, of each number the highest first: how many there are");
        MarchHares x = new MarchHares();
        // "form", "12 3", "; fo", "x 7 ", "8;"
        CHECK.due("the first twenty", x.feed(0x666f726d, 0x31322033, 0x3b20666f, 0x78203720, 0x383b0000), 20);
        CHECK.due("the next", x.feed(-1, 0, Integer.MIN_VALUE, Integer.MAX_VALUE, 1), 40);
        CHECK.due("down of 18", x.down(18), 0);
        CHECK.due("X", x.form(0, 0), 12);
        CHECK.due("Y", x.form(0, 1), 3);
        CHECK.due("X of the fox", x.fox(0, 0), 7);
        CHECK.due("Y of the fox", x.fox(0, 1), 8);
        CHECK.due("anew", x.feed(0x20202020, 0x20202020, 0x20202020, 0x20202020, 0x202020ff), 20);
        CHECK.due("the last byte is 255", x.down(20), -9);
        CHECK.due("its place", x.fault(), 19);
    }

    private static void fullTape() {
        CHECK.says("NONE, doing nothing, if there would be more than 600.");
        MarchHares x = new MarchHares();
        for (int fed = 20; fed <= 600; fed += 20) {
            CHECK.due("fed", x.feed(0x20202020, 0x20202020, 0x20202020, 0x20202020, 0x20202020), fed);
        }
        CHECK.due("more", x.feed(0x78787878, 0, 0, 0, 0), NONE);
        CHECK.due("more", x.feed(0x78787878, 0, 0, 0, 0), NONE);
        CHECK.due("the bytes", x.count(1), 600);
        CHECK.due("it is no refusal", x.status(1), 0);
        CHECK.due("all are blanks yet", x.down(600), 0);
        CHECK.due("fed anew", x.feed(0, 0, 0, 0, 0), 20);
    }

    private static void firstBytes() {
        CHECK.says("The first n bytes of the TAPE (empty then) are the DOWN");
        MarchHares x = new MarchHares();
        Check.feed(x, "form 1 1;form 2 2;");
        CHECK.due("nine of them", x.down(9), 0);
        CHECK.due("one form", x.told(0), 1);
        CHECK.due("the tape", x.count(1), 0);
        CHECK.illegal("what stood behind is gone", () -> x.down(9));
        Check.feed(x, "form 3 3;");
        CHECK.due("none of them", x.down(0), 0);
        CHECK.due("no form", x.told(0), 0);
        CHECK.due("the tape", x.count(1), 0);
        CHECK.due("none of none", x.down(0), 0);
    }

    /** Reads so many bytes of a tape on which more of the same stand. */
    private static void cutLaw(String tape, int n, int answer, int place) {
        MarchHares x = new MarchHares();
        Check.feed(x, tape);
        CHECK.due("law of " + n + " of \"" + tape + "\"", x.law(n), answer);
        CHECK.due("its place", x.fault(), place);
    }

    private static void cutDown(String tape, int n, int answer, int place) {
        MarchHares x = new MarchHares();
        Check.feed(x, tape);
        CHECK.due("down of " + n + " of \"" + tape + "\"", x.down(n), answer);
        CHECK.due("its place", x.fault(), place);
    }

    private static void cutTexts() {
        CHECK.says("The first n bytes of the TAPE");
        cutLaw("1+5", 2, -9, 2);
        cutLaw("1+5", 1, 1, NONE);
        cutLaw("999999", 3, 1, NONE);
        cutLaw("strongs", 6, 1, NONE);
        cutLaw("strong", 5, -9, 0);
        cutLaw("(1)", 2, -9, 2);
        cutLaw("(1)", 1, -9, 1);
        cutLaw("1 )", 2, 1, NONE);
        cutLaw("least[1,2]", 9, -9, 9);
        cutLaw("least[1,2]", 5, -9, 5);
        cutDown("form 1 1;", 0, 0, NONE);
        cutDown("form 1 1;", 3, -9, 0);
        cutDown("form 1 1;", 4, -9, 4);
        cutDown("form 1 1;", 5, -9, 5);
        cutDown("form 1 1;", 6, -9, 6);
        cutDown("form 1 1;", 8, -9, 8);
        cutDown("form 1 1;   x", 12, 0, NONE);
        cutDown("form 1 111;", 8, -9, 8);
        MarchHares x = new MarchHares();
        Check.feed(x, "form 1 29;");
        CHECK.due("one digit of two", x.down(8), -9);
        Check.feed(x, "form 1 2;form 3 3;");
        CHECK.due("one clause of two", x.down(9), 0);
        CHECK.due("one form", x.told(0), 1);
        Check.feed(x, "day;day;day;");
        CHECK.due("two days of three", x.work(8), 2);
        Check.feed(x, "0 1;1 1;");
        CHECK.due("one line of two", x.book(4), 1);
    }

    private static MarchHares filled() {
        MarchHares x = Check.of(TWO + "form 9 9;fox 9 9;debt 0 1 9;");
        Check.law(x, "7");
        Check.book(x, "0 2;");
        Check.work(x, "box 0 1;pay 0 1 4;leap 0 0;day;");
        x.image();
        return x;
    }

    private static void downAnew() {
        CHECK.says("(no LAW, BOOK, IMAGES, nothing to undo): how many HARES");
        MarchHares x = filled();
        CHECK.due("the down", Check.down(x, "form 1 1;hare 0 2;"), 1);
        CHECK.due("no law", x.would(1, 0, 0, 0, 0, 1, 0, 0), 5);
        CHECK.due("no book", x.told(9), 0);
        CHECK.due("no images", x.count(0), 0);
        CHECK.due("none to restore", x.restore(), -1);
        CHECK.due("nothing to undo", x.count(2), 0);
        CHECK.due("nothing to undo", x.undo(), -1);
        CHECK.due("day 1", x.told(3), 1);
        CHECK.due("no fox", x.told(2), 0);
        CHECK.due("no debts", x.told(8), 0);
        CHECK.due("the same, empty", Check.down(x, ""), 0);
        CHECK.due("no hares", x.told(1), 0);
    }

    /** Nothing of a down, or of one with a fault, is left in the next ones. */
    private static void downsInARow() {
        CHECK.says("are the DOWN (no LAW, BOOK, IMAGES, nothing to undo)");
        MarchHares x = new MarchHares();
        String many = "form 9 9;form 9 9;form 9 9;hare 2 5;hare 2 5;hare 2 5;fox 0 0;fox 0 0;debt 0 1 5;debt 1 0 6;";
        String few = "form 1 1;hare 0 2;hare 0 2;fox 1 1;debt 1 0 3;";
        int[] told = {1, 2, 1, 1, 0, 0, 0, 0, 3, 0, 0, 3};
        for (int time = 0; time < 5; time++) {
            CHECK.due("many", Check.down(x, many), 3);
            CHECK.due("all are safe", x.told(7), 7);
            CHECK.due("debts", x.told(8), 11);
            CHECK.due("many, and a fault", Check.down(x, many + (time % 2 == 0 ? "x" : "")), time % 2 == 0 ? -9 : 3);
            CHECK.due("few", Check.down(x, few), 2);
            for (int what = 0; what < told.length; what++) {
                CHECK.due("told " + what, x.told(what), told[what]);
            }
            CHECK.due("a debt", x.debt(0, 1), 0);
            CHECK.due("its seat", x.hare(1, 0), 0);
            if (time % 2 == 1) {
                CHECK.due("few once more", Check.down(x, few), 2);
                CHECK.due("forms", x.told(0), 1);
                CHECK.due("debts", x.told(8), 3);
            }
        }
        CHECK.due("none", Check.down(x, ""), 0);
        CHECK.due("none twice", Check.down(x, ""), 0);
        for (int what = 0; what < 12; what++) {
            CHECK.due("told " + what, x.told(what), what == 3 ? 1 : 0);
        }
    }

    private static void downStays() {
        CHECK.says("or the FAULT less 10 (all stays).");
        String[] texts = {"form", "form 31 0;", times(9, "form 0 0;")};
        for (int why = 1; why <= 3; why++) {
            MarchHares x = filled();
            CHECK.due("a down with a fault", Check.down(x, texts[why - 1]), why - 10);
            CHECK.due("the tape", x.count(1), 0);
            CHECK.due("the law", x.would(1, 0, 0, 0, 0, 1, 0, 0), 7);
            int[] told = {2, 2, 1, 2, 0, 0, 0, 1, 5, 1, 1, 0};
            for (int what = 0; what < 12; what++) {
                CHECK.due("told " + what, x.told(what), told[what]);
            }
            CHECK.due("STRONG", x.hare(1, 1), 0);
            CHECK.due("STRONG as told", x.hare(1, 2), 1);
            CHECK.due("works", x.count(2), 1);
            CHECK.due("undo", x.undo(), 0);
            CHECK.due("images", x.restore(), 0);
        }
    }

    private static void downLengthsRefused() {
        CHECK.says("IllegalArgumentException: n is not 0 to the TAPE's bytes (it stays).");
        MarchHares x = new MarchHares();
        CHECK.illegal("1 of none", () -> x.down(1));
        Check.feed(x, "form 1 1;");
        for (int n : new int[] {-1, 21, 600, 601, Integer.MAX_VALUE, Integer.MIN_VALUE}) {
            CHECK.illegal("down " + n, () -> x.down(n));
        }
        CHECK.due("the tape", x.count(1), 20);
        CHECK.due("no fault", x.fault(), NONE);
        CHECK.due("counted", x.status(1), 7);
        CHECK.due("all twenty", x.down(20), -9);
        CHECK.due("what is behind", x.fault(), 9);
    }

    private static void laws() {
        CHECK.says("Likewise the LAW (n to 150): 1.");
        MarchHares x = new MarchHares();
        Check.feed(x, blanks(149) + "77");
        CHECK.illegal("law 151", () -> x.law(151));
        CHECK.illegal("law 160", () -> x.law(160));
        CHECK.illegal("law -1", () -> x.law(-1));
        CHECK.due("the tape stays", x.count(1), 160);
        CHECK.due("law 150", x.law(150), 1);
        CHECK.due("its value", x.would(1, 0, 0, 0, 0, 1, 0, 0), 7);
        CHECK.due("the tape", x.count(1), 0);
        CHECK.illegal("law 1 of none", () -> x.law(1));
        CHECK.due("law 0: a fault", x.law(0), -9);
        CHECK.due("a fault, and bytes behind it", Check.law(x, "1000"), -8);
        CHECK.due("the tape", x.count(1), 0);
        CHECK.due("the law stays", x.would(1, 0, 0, 0, 0, 1, 0, 0), 7);
        MarchHares y = filled();
        CHECK.due("a law", Check.law(y, "9"), 1);
        CHECK.due("the book stays by it", y.told(9), 1);
        CHECK.due("images stay", y.count(0), 1);
        CHECK.due("works stay", y.count(2), 1);
        CHECK.due("the day stays", y.told(3), 2);
    }

    private static void works() {
        CHECK.says("Likewise WORK (n to 150), which is done: how many STEPS were done "
                + "(agains not counted, nor REFUSED ones); or the FAULT less 10 (none is)");
        MarchHares x = filled();
        Check.feed(x, times(40, "day;"));
        CHECK.illegal("work 151", () -> x.work(151));
        CHECK.illegal("work -1", () -> x.work(-1));
        CHECK.due("the tape stays", x.count(1), 160);
        CHECK.due("work 148", x.work(148), 37);
        CHECK.due("the tape", x.count(1), 0);
        CHECK.illegal("work 4 of none", () -> x.work(4));
        CHECK.due("agains, refused ones", Check.work(x, "again 2[again 3[leap 0 0;day;];];"), 6);
        CHECK.due("the works", x.count(2), 3);
        int day = x.told(3);
        CHECK.due("a fault behind steps", Check.work(x, "day;day;dax;"), -9);
        CHECK.due("a fault behind steps", Check.work(x, "day;pay 0 1 1;leap 0 5;"), -8);
        CHECK.due("a fault behind steps", Check.work(x, "day;" + times(7, "again 1[")), -7);
        CHECK.due("none is done", x.told(3), day);
        CHECK.due("no debt is paid", x.told(8), 5);
        CHECK.due("the works", x.count(2), 3);
        CHECK.due("refused by the latest", x.told(10), 6);
        CHECK.due("none of them is", Check.work(x, ""), 0);
        CHECK.due("it is a work all the same", x.count(2), 4);
        CHECK.due("refused by it", x.told(10), 0);
    }

    private static void worksFull() {
        CHECK.says("-20 ahead of that (nothing is read, there is no FAULT, the TAPE is empty then): "
                + "16 WORKS are there that were not undone.");
        MarchHares x = Check.of(TWO);
        for (int work = 1; work <= 15; work++) {
            Check.work(x, "day;");
        }
        CHECK.due("the 16th", Check.work(x, "day;leap 0 0;"), 1);
        Check.law(x, "1+");
        CHECK.due("a fault ahead", x.fault(), 2);
        CHECK.due("the 17th", Check.work(x, "day;"), -20);
        CHECK.due("no fault", x.fault(), NONE);
        CHECK.due("the tape", x.count(1), 0);
        CHECK.due("nothing is done", x.told(3), 17);
        CHECK.due("no work more", x.count(2), 16);
        CHECK.due("refused by the latest one that was done", x.told(10), 1);
        CHECK.due("one with a fault", Check.work(x, "x"), -20);
        CHECK.due("no fault", x.fault(), NONE);
        CHECK.due("an empty one", x.work(0), -20);
        Check.feed(x, "day;");
        CHECK.illegal("a length that is none", () -> x.work(21));
        CHECK.due("the tape stays by that", x.count(1), 20);
        CHECK.due("undo", x.undo(), 15);
        CHECK.due("the 16th again", x.work(4), 1);
        CHECK.due("the 17th again", Check.work(x, "day;"), -20);
        CHECK.due("other texts all the same", Check.law(x, "5") + Check.book(x, "0 1;"), 2);
        x.image();
        for (int left = 15; left >= 0; left--) {
            CHECK.due("undo", x.undo(), left);
        }
        CHECK.due("a work then", Check.work(x, "day;"), 1);
        x.restore();
        CHECK.due("16 are there again", Check.work(x, "day;"), -20);
        Check.down(x, TWO);
        CHECK.due("none is there by a new down", Check.work(x, "day;"), 1);
    }

    private static void booksAsked() {
        CHECK.says("Likewise the BOOK (n to 60): how many lines.");
        MarchHares x = Check.of("form 0 0;form 0 0;");
        Check.feed(x, blanks(52) + "0 1;1 0;  ");
        CHECK.illegal("book 61", () -> x.book(61));
        CHECK.illegal("book 80", () -> x.book(80));
        CHECK.illegal("book -1", () -> x.book(-1));
        CHECK.due("the tape stays", x.count(1), 80);
        CHECK.due("book 60", x.book(60), 2);
        CHECK.due("the tape", x.count(1), 0);
        CHECK.illegal("book 1 of none", () -> x.book(1));
        CHECK.due("a fault", Check.book(x, "1 1;1"), -8);
        CHECK.due("the tape", x.count(1), 0);
        CHECK.due("the lines stay", x.told(9), 2);
        CHECK.due("another", Check.book(x, "1 1;"), 1);
        CHECK.due("lines", x.told(9), 1);
        CHECK.due("none", x.book(0), 0);
        CHECK.due("lines", x.told(9), 0);
        MarchHares eight = Check.of(times(8, "form 0 0;"));
        CHECK.due("a line for each form", Check.book(eight, "7 0;6 0;5 0;4 0;3 0;2 0;1 0;0 6;"), 8);
    }

    private static void faults() {
        CHECK.says("`int fault()`: The place of the FAULT of the latest text; NONE without.");
        MarchHares x = new MarchHares();
        CHECK.due("no text yet", x.fault(), NONE);
        Check.down(x, "x");
        CHECK.due("of a down", x.fault(), 0);
        Check.law(x, "1+");
        CHECK.due("of a law", x.fault(), 2);
        CHECK.illegal("no text", () -> x.law(1));
        CHECK.due("as it was", x.fault(), 2);
        Check.work(x, "day");
        CHECK.due("of a work", x.fault(), 3);
        Check.book(x, " 0");
        CHECK.due("of a book", x.fault(), 1);
        x.feed(0, 0, 0, 0, 0);
        CHECK.due("bytes are no text", x.fault(), 1);
        CHECK.due("a text without", x.work(0), 0);
        CHECK.due("none", x.fault(), NONE);
        Check.book(x, "x");
        x.undo();
        CHECK.due("undo leaves it", x.fault(), 0);
        Check.down(x, "");
        CHECK.due("none", x.fault(), NONE);
        CHECK.due("the farthest", Check.down(x, blanks(599) + "x"), -9);
        CHECK.due("its place", x.fault(), 599);
    }

    public static void main(String[] args) {
        downLengths();
        clauses();
        forms();
        hares();
        foxes();
        debts();
        lawLengths();
        leastAndMost();
        sums();
        numbersOfLaws();
        pairs();
        wraps();
        divisions();
        workLengths();
        amounts();
        rounds();
        books();
        digits();
        words();
        blanksAhead();
        firstFault();
        cantStand();
        noneSuch();
        noneSuchOfFull();
        tooMany();
        leastOfOne();
        newOne();
        feeding();
        fullTape();
        firstBytes();
        cutTexts();
        downAnew();
        downsInARow();
        downStays();
        downLengthsRefused();
        laws();
        works();
        worksFull();
        booksAsked();
        faults();
        CHECK.end();
    }
}
