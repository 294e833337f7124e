import java.io.IOException;
import java.nio.file.Files;
import java.nio.file.Path;
import java.util.NoSuchElementException;

/** What the tests share: texts put on the tape, answers compared, refusals looked for. */
final class Check {
    static final Path DOCUMENT = Path.of("../shared/DOC.md");

    private int wrong = 0;
    private int seen = 0;
    private int seenAhead = 0;
    private String sentence = "";
    private String document = "";

    interface Call {
        long answer();
    }

    void due(String what, long got, long want) {
        seen++;
        if (got != want) {
            wrong++;
            System.out.println((sentence.isEmpty() ? "" : "\"" + sentence + "\": ") + what + " answered " + got
                    + ", due is " + want);
        }
    }

    /** What comes next is due by this sentence, which must stand in the document word by word. */
    void says(String words) {
        closeSentence();
        sentence = words;
        seenAhead = seen;
        if (isDocumentThere() && !document().contains(words)) {
            wrong++;
            System.out.println("no sentence of the document: " + words);
        }
    }

    /** The answers are due all the same where only the tests were checked out. */
    static boolean isDocumentThere() {
        return Files.isReadable(DOCUMENT);
    }

    private void closeSentence() {
        if (!sentence.isEmpty() && seen == seenAhead) {
            wrong++;
            System.out.println("no answer is looked at for: " + sentence);
        }
    }

    private String document() {
        if (document.isEmpty()) {
            try {
                document = Files.readString(DOCUMENT).replaceAll("\\s+", " ");
            } catch (IOException e) {
                throw new IllegalStateException("can't read " + DOCUMENT, e);
            }
        }
        return document;
    }

    void illegal(String what, Call call) {
        due(what + " (1: throws IllegalArgumentException)", thrown(call), 1);
    }

    void noSuch(String what, Call call) {
        due(what + " (2: throws NoSuchElementException)", thrown(call), 2);
    }

    private static int thrown(Call call) {
        try {
            call.answer();
            return 0;
        } catch (NoSuchElementException e) {
            return 2;
        } catch (IllegalArgumentException e) {
            return e.getClass() == IllegalArgumentException.class ? 1 : 3;
        } catch (RuntimeException e) {
            return 3;
        }
    }

    /** Puts a text on the tape, which is empty; what stands behind it is no part of any text. */
    static int feed(MarchHares x, String text) {
        for (int from = 0; from < text.length(); from += 20) {
            int[] numbers = new int[5];
            for (int at = 0; at < 20; at++) {
                int sign = from + at < text.length() ? text.charAt(from + at) : '#';
                numbers[at / 4] = numbers[at / 4] << 8 | sign;
            }
            x.feed(numbers[0], numbers[1], numbers[2], numbers[3], numbers[4]);
        }
        return text.length();
    }

    static int down(MarchHares x, String text) {
        return x.down(feed(x, text));
    }

    static int law(MarchHares x, String text) {
        return x.law(feed(x, text));
    }

    static int work(MarchHares x, String text) {
        return x.work(feed(x, text));
    }

    static int book(MarchHares x, String text) {
        return x.book(feed(x, text));
    }

    static MarchHares of(String text) {
        MarchHares x = new MarchHares();
        if (down(x, text) < 0) {
            throw new IllegalStateException("a test's own down has a fault: " + text);
        }
        return x;
    }

    void end() {
        closeSentence();
        System.out.println(seen + " answers, " + wrong + " not as due");
        if (wrong > 0 || seen == 0) {
            System.exit(1);
        }
    }
}
