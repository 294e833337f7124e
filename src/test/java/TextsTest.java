/** Promises 1 to 7: the tape, the four texts with their faults, what a refused text leaves as it is. */
public final class TextsTest {
    private static final Check CHECK = new Check();
    private static final String TWO_HARES = "form 0 0;hare 0 1;hare 0 1;";

    private static void downFault(String text, int why, int place) {
        MarchHares x = Check.of("form 3 4;");
        CHECK.due("down \"" + text + "\"", Check.down(x, text), why - 10);
        CHECK.due("its place", x.fault(), place);
        CHECK.due("the tape then", x.count(1), 0);
        CHECK.due("the down stays", x.told(0), 1);
        CHECK.due("its form stays", x.form(0, 1), 4);
    }

    private static void downFine(String text, int hares) {
        MarchHares x = new MarchHares();
        CHECK.due("down \"" + text + "\"", Check.down(x, text), hares);
        CHECK.due("no fault", x.fault(), MarchHares.NONE);
    }

    private static String times(int many, String text) {
        return text.repeat(many);
    }

    private static void newObject() {
        MarchHares x = new MarchHares();
        for (int what = 0; what <= 11; what++) {
            CHECK.due("told " + what + " of a new one", x.told(what), what == 3 ? 1 : 0);
        }
        CHECK.due("no fault", x.fault(), -1);
        CHECK.due("no images", x.count(0), 0);
        CHECK.due("an empty tape", x.count(1), 0);
        CHECK.due("no works", x.count(2), 0);
        CHECK.due("none refused", x.status(0) + x.status(1), 0);
    }

    private static void feeding() {
        MarchHares x = new MarchHares();
        for (int fed = 1; fed <= 30; fed++) {
            CHECK.due("feed", x.feed(0x20202020, 0x20202020, 0x20202020, 0x20202020, 0x20202020), 20 * fed);
        }
        CHECK.due("feed beyond 600", x.feed(1, 2, 3, 4, 5), MarchHares.NONE);
        CHECK.due("the tape then", x.count(1), 600);
        CHECK.due("600 blanks", x.down(600), 0);
        CHECK.due("the tape behind a text", x.count(1), 0);
        // "form", "12 3", ";hop"
        CHECK.due("the highest byte first", x.feed(0x666f726d, 0x31322033, 0x3b686f70, 0, 0), 20);
        CHECK.due("down of nine", x.down(9), 0);
        CHECK.due("X", x.form(0, 0), 12);
        CHECK.due("Y", x.form(0, 1), 3);
    }

    private static void lengths() {
        MarchHares x = new MarchHares();
        CHECK.illegal("down of more than there is", () -> x.down(1));
        CHECK.illegal("down of less than nothing", () -> x.down(-1));
        for (int fed = 0; fed < 8; fed++) {
            Check.feed(x, times(20, " "));
        }
        CHECK.illegal("law of 151", () -> x.law(151));
        CHECK.illegal("law of -1", () -> x.law(-1));
        CHECK.illegal("work of 151", () -> x.work(151));
        CHECK.illegal("work of -1", () -> x.work(-1));
        CHECK.illegal("book of 61", () -> x.book(61));
        CHECK.illegal("book of -1", () -> x.book(-1));
        CHECK.illegal("down of 161", () -> x.down(161));
        CHECK.due("the tape stays", x.count(1), 160);
        CHECK.due("no fault by these", x.fault(), -1);
        CHECK.due("refusals counted", x.status(1), 9);
        CHECK.due("work of 150 blanks", x.work(150), 0);
        Check.feed(x, times(80, " "));
        CHECK.due("book of 60 blanks", x.book(60), 0);
        Check.feed(x, times(160, " "));
        CHECK.due("law of 150 blanks", x.law(150), -9);
        CHECK.due("its place is the length", x.fault(), 150);
        CHECK.illegal("law of 1, the tape being empty", () -> x.law(1));
        CHECK.due("the fault stays by what is no text", x.fault(), 150);
    }

    private static void downs() {
        downFine("", 0);
        downFine("  ", 0);
        downFine(" form 0  30 ; fox30 0;form000030 0;hare 1 9 ;", 1);
        downFine("form 0 0;hare 0 1;hare 0 9;debt 0 1 99;debt 1 0 0;  ", 2);
        downFault(";", 1, 0);
        downFault("form 0 0", 1, 8);
        downFault("form 0 0  ", 1, 10);
        downFault("form 0 0 0;", 1, 9);
        downFault("form 0;", 1, 6);
        downFault("form ;", 1, 5);
        downFault("form", 1, 4);
        downFault("for 0 0;", 1, 0);
        downFault(" forms 0 0;", 1, 1);
        downFault("forma 0 0;", 1, 0);
        downFault("formz 0 0;", 1, 0);
        downFault("Form 0 0;", 1, 0);
        downFault("form\t0 0;", 1, 4);
        downFault("form 1a 2;", 1, 6);
        downFault("form 1 -2;", 1, 7);
        downFault("form 0 0;\u00ff", 1, 9);
        downFault("form 0 0;\u0000", 1, 9);
        downFault("form 31 x", 2, 5);
        downFault("form 30 31", 2, 8);
        downFault("form 4294967296 0;", 2, 5);
        downFault("form 99999999999999999999 0;", 2, 5);
        downFault("hare 0 1;form 0 0;", 2, 5);
        downFault("form 0 0;hare 1 1;", 2, 14);
        downFault("form 0 0;hare 0 0;", 2, 16);
        downFault("form 0 0;hare 0 10;", 2, 16);
        downFault("fox 31 0;", 2, 4);
        downFault("fox 0 31;", 2, 6);
        downFault(TWO_HARES + "debt 2 0 1;", 2, 32);
        downFault(TWO_HARES + "debt 0 2 1;", 2, 34);
        downFault(TWO_HARES + "debt 1 1 x;", 2, 34);
        downFault(TWO_HARES + "debt 0 1 100;", 2, 36);
        downFault(TWO_HARES + "debt 0 1;", 1, 35);
        downFault(times(9, "form 0 0;"), 3, 72);
        downFault(times(8, "form 0 0;") + "form x", 3, 72);
        downFault("form 0 0;" + times(7, "hare 0 1;"), 3, 63);
        downFault(times(5, "fox 0 0;"), 3, 32);
        downFine(times(8, "form 0 0;") + times(6, "hare 0 1;") + times(4, "fox 9 9;"), 6);
    }

    private static void clauses() {
        String sixty = "form0 0;hare0 1;hare0 1;" + times(57, "debt0 1 7;");
        downFine(sixty, 2);
        downFine(sixty + "  ", 2);
        downFault(sixty + "debt", 3, 594);
        downFault(sixty + " fox;", 3, 595);
        downFault(sixty + "foxes", 1, 594);
        downFault(sixty + ";", 1, 594);
        MarchHares x = Check.of(TWO_HARES + "debt 0 1 7;debt 1 0 5;debt 0 1 3;");
        CHECK.due("the last debt counts", x.debt(0, 1), 3);
        CHECK.due("the other way stays", x.debt(1, 0), 5);
        Check.of(TWO_HARES + "debt 0 1 7;debt 0 1 0;");
    }

    private static void downAnew() {
        MarchHares x = Check.of("form 0 0;form 9 9;hare 0 5;hare 1 5;debt 0 1 9;");
        Check.law(x, "7");
        Check.book(x, "0 1;");
        Check.work(x, "leap 0 1;pay 0 1 4;day;");
        x.image();
        CHECK.due("refused ahead of the down", x.told(10), 1);
        CHECK.due("a down with a fault", Check.down(x, "form"), -9);
        CHECK.due("the law stays", x.would(1, 0, 0, 0, 0, 1, 0, 0), 7);
        CHECK.due("the book stays", x.told(9), 1);
        CHECK.due("the day stays", x.told(3), 2);
        CHECK.due("the image stays", x.count(0), 1);
        CHECK.due("the work stays", x.count(2), 1);
        CHECK.due("refused stays", x.told(10), 1);
        CHECK.due("a down anew", Check.down(x, "form 1 1;hare 0 2;"), 1);
        CHECK.due("no law", x.would(1, 0, 0, 0, 0, 1, 0, 0), 5);
        CHECK.due("no book", x.told(9), 0);
        CHECK.due("day 1", x.told(3), 1);
        CHECK.due("no image", x.count(0), 0);
        CHECK.due("nothing to restore", x.restore(), -1);
        CHECK.due("no work", x.count(2), 0);
        CHECK.due("nothing to undo", x.undo(), -1);
        CHECK.due("none refused", x.told(10), 0);
        CHECK.due("no debts", x.told(8), 0);
        CHECK.due("still 0", x.hare(0, 3), 0);
    }

    private static void lawFault(String text, int why, int place) {
        MarchHares x = Check.of("form 3 4;");
        Check.law(x, "17");
        CHECK.due("law \"" + text + "\"", Check.law(x, text), why - 10);
        CHECK.due("its place", x.fault(), place);
        CHECK.due("the tape then", x.count(1), 0);
        CHECK.due("the law stays", x.would(1, 1, 1, 1, 1, 1, 1, 1), 17);
    }

    private static void lawFine(String text, int out) {
        MarchHares x = new MarchHares();
        CHECK.due("law \"" + text + "\"", Check.law(x, text), 1);
        CHECK.due("no fault", x.fault(), -1);
        CHECK.due("what comes out by " + text, x.would(9, 8, 7, 6, 5, 4, 3, 2), out);
    }

    private static void laws() {
        lawFine("strong*1", 9);
        lawFine("still", 8);
        lawFine("owes", 7);
        lawFine("owed", 6);
        lawFine("others", 5);
        lawFine("day", 4);
        lawFine("hare", 3);
        lawFine("leaps", 2);
        lawFine(" 1 + 2 * 3 ", 7);
        lawFine("20-3-4", 13);
        lawFine("100/7/2", 7);
        lawFine("100%30*2", 20);
        lawFine("2*(3+4)", 14);
        lawFine("(20)-(3-4)", 21);
        lawFine("least[3,4]+10*most[3 , 4]", 43);
        lawFine("least [ still , strong ] ", 8);
        lawFine("0-1", 0);
        lawFine("999", 60);
        lawFine("61", 60);
        lawFine("60", 60);
        lawFine("0000000012", 12);
        lawFine("10+(0-7)/2", 7);
        lawFine("10+(0-7)%4", 7);
        lawFine("10+7%(0-4)", 13);
        lawFine("5/0+7", 7);
        lawFine("5%0+8", 8);
        lawFine("999*999*999*3/100/100/100/100+30", 17);
        lawFine("256*256*256*128/(0-1)/256/256/256+150", 22);
        lawFine("256*256*256*128%(0-1)+5", 5);
        lawFine("((((((1))))))+((((((2))))))", 3);
        lawFine("least[least[least[least[least[least[9,8],7],6],5],4],3]", 3);
        lawFine("1" + times(74, "+1"), 60);
        lawFault("", 1, 0);
        lawFault("  ", 1, 2);
        lawFault("1+", 1, 2);
        lawFault("+1", 1, 0);
        lawFault("1 2", 1, 2);
        lawFault("1)", 1, 1);
        lawFault("(1", 1, 2);
        lawFault("(1]", 1, 2);
        lawFault("least(1,2)", 1, 5);
        lawFault("least[1;2]", 1, 7);
        lawFault("least[1,2", 1, 9);
        lawFault("least[1]", 1, 7);
        lawFault("most[1,2)", 1, 8);
        lawFault("most[,2]", 1, 5);
        lawFault("strongs", 1, 0);
        lawFault("1+Strong", 1, 2);
        lawFault("strong still", 1, 7);
        lawFault("strong3", 1, 6);
        lawFault("3strong", 1, 1);
        lawFault("1000", 2, 0);
        lawFault(" 1 + 1000)", 2, 5);
        lawFault("3*4294967297", 2, 2);
        lawFault("1**2", 1, 2);
        lawFault("(((((((", 3, 6);
        lawFault("((((((least[1,2", 3, 6);
        lawFault("((((((most", 3, 6);
        lawFault("most[most[most[most[most[most[most[1", 3, 30);
        lawFault("((((((mos", 1, 6);
        lawFault("most[1,most[1,most[1,most[1,most[1,most[1,(1)]]]]]]", 3, 42);
        lawFault("((((((1))))))+(((((((1", 3, 20);
    }

    private static void workFault(String text, int why, int place) {
        MarchHares x = Check.of(TWO_HARES + "form 1 1;debt 0 1 50;");
        Check.work(x, "leap 0 0;day;");
        CHECK.due("work \"" + text + "\"", Check.work(x, text), why - 10);
        CHECK.due("its place", x.fault(), place);
        CHECK.due("the tape then", x.count(1), 0);
        CHECK.due("nothing is done", x.told(3), 2);
        CHECK.due("no debt is paid", x.told(8), 50);
        CHECK.due("it is no work", x.count(2), 1);
        CHECK.due("refused by the latest work", x.told(10), 1);
    }

    private static void works() {
        workFault("day", 1, 3);
        workFault("day; days;", 1, 5);
        workFault("day;]", 1, 4);
        workFault("day;;", 1, 4);
        workFault("day 1;", 1, 4);
        workFault("leap 0;", 1, 6);
        workFault("leap 2 0;", 2, 5);
        workFault("leap 0 2;", 2, 7);
        workFault("leap 0 1", 1, 8);
        workFault("box 2 0;", 2, 4);
        workFault("day;box 1 2;", 2, 10);
        workFault("pay 2 0 1;", 2, 4);
        workFault("pay 0 2 1;", 2, 6);
        workFault("pay 0 1 0;", 2, 8);
        workFault("pay 0 1 100;", 2, 8);
        workFault("pay 0 1;", 1, 7);
        workFault("again 41[", 2, 6);
        workFault("again 40;", 1, 8);
        workFault("again [];", 1, 6);
        workFault("again 1[day]", 1, 11);
        workFault("again 1[day;]", 1, 13);
        workFault("again 1[day;", 1, 12);
        workFault("again 1[day;];]", 1, 14);
        workFault("agains 1[day;];", 1, 0);
        workFault(times(6, "again1[") + "again;", 3, 42);
        workFault(times(6, "again1[") + "againe", 1, 42);
        MarchHares x = Check.of(TWO_HARES);
        CHECK.due("six open at one time, twice",
                Check.work(x, times(2, times(6, "again1[") + "day;" + times(6, "];"))), 2);
        CHECK.due("blanks ahead of all", Check.work(x, "  again 2 [ day ; ] ; box 0 1 ;  "), 3);
    }

    private static void books() {
        MarchHares x = Check.of("form 0 0;form 1 1;form 2 2;hare 0 1;");
        CHECK.due("a book", Check.book(x, " 2 0 ; 0 6;"), 2);
        String[] texts = {"3 0;", "0 7;", "0 1;0", "0 1;1 2;0", "0;", "0 1", "0 1;x", "a 1;", "0 1;;", "0 1 1;"};
        int[] whys = {2, 2, 2, 2, 1, 1, 1, 1, 1, 1};
        int[] places = {0, 2, 4, 8, 1, 3, 4, 0, 4, 4};
        for (int i = 0; i < texts.length; i++) {
            CHECK.due("book \"" + texts[i] + "\"", Check.book(x, texts[i]), whys[i] - 10);
            CHECK.due("its place", x.fault(), places[i]);
            CHECK.due("the tape then", x.count(1), 0);
            CHECK.due("the book stays", x.told(9), 2);
        }
        CHECK.due("a book without lines", Check.book(x, " "), 0);
        CHECK.due("no lines then", x.told(9), 0);
        MarchHares eight = Check.of(times(8, "form 0 0;"));
        CHECK.due("all forms", Check.book(eight, "0 0;1 0;2 0;3 0;4 0;5 0;6 0;7 0;"), 8);
        CHECK.due("one more", Check.book(eight, "0 0;1 0;2 0;3 0;4 0;5 0;6 0;7 0;7 0;"), -8);
        CHECK.due("its place", eight.fault(), 32);
        CHECK.due("no forms, no lines", Check.book(new MarchHares(), "0 0;"), -8);
    }

    private static void sixteenWorks() {
        MarchHares x = Check.of(TWO_HARES);
        for (int done = 1; done <= 16; done++) {
            CHECK.due("a work", Check.work(x, "day;"), 1);
        }
        Check.law(x, "1+");
        CHECK.due("a fault ahead", x.fault(), 2);
        CHECK.due("a 17th work with a fault", Check.work(x, "daz;"), -20);
        CHECK.due("there is no fault", x.fault(), -1);
        CHECK.due("the tape is empty", x.count(1), 0);
        CHECK.illegal("too long a text ahead of that", () -> x.work(1));
        CHECK.due("nothing is done", x.told(3), 17);
        CHECK.due("one is undone", x.undo(), 15);
        CHECK.due("a work then", Check.work(x, "day;day;"), 2);
    }

    public static void main(String[] args) {
        newObject();
        feeding();
        lengths();
        downs();
        clauses();
        downAnew();
        laws();
        works();
        books();
        sixteenWorks();
        CHECK.end();
    }
}
