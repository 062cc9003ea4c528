import java.util.ArrayList;
import java.util.List;

/** Tests of sentences: each begins with the document's own words and a new judge, and asks at least one call. */
abstract class Sheet {
    static final int NONE = -1;
    static final int MIN = Integer.MIN_VALUE;
    static final int MAX = Integer.MAX_VALUE;

    // Numbers around every bound that the document names, for calls that must refuse all but a few.
    static final int[] FAR = {
        MIN, MIN + 1, -65536, -257, -256, -128, -101, -100, -27, -9, -8, -3, -2, -1, 0, 1, 2, 3, 4, 5, 6, 7, 8, 9, 10,
        11, 12, 13, 15, 16, 17, 23, 24, 25, 26, 27, 31, 32, 39, 40, 41, 63, 64, 99, 100, 101, 127, 128, 200, 255, 256,
        257, 300, 400, 1023, 1024, 1199, 1200, 1201, 4096, 65535, 65536, 1 << 30, MAX - 1, MAX
    };

    private final List<String> quoted = new ArrayList<>();
    private String words = "";
    private int asked = 1;
    private int wrong;
    NothingJudge x = new NothingJudge();

    abstract void check();

    List<String> quoted() {
        return quoted;
    }

    int wrong() {
        close();
        return wrong;
    }

    void says(String sentence) {
        close();
        words = sentence;
        quoted.add(sentence);
        asked = 0;
        x = new NothingJudge();
    }

    private void close() {
        if (asked == 0) {
            tell("nothing is asked");
        }
    }

    private void tell(String what) {
        wrong++;
        System.out.println("[" + words + "] " + what);
    }

    void due(String call, int got, int want) {
        asked++;
        if (got != want) {
            tell(call + " answered " + got + ", due is " + want);
        }
    }

    void due(String call, boolean got, boolean want) {
        due(call, got ? 1 : 0, want ? 1 : 0);
    }

    static String times(String part, int n) {
        return part.repeat(n);
    }

    private static int four(String text, int at) {
        int number = 0;
        for (int k = at; k < at + 4; k++) {
            number = number << 8 | (k < text.length() ? text.charAt(k) & 255 : ' ');
        }
        return number;
    }

    int feed(String text, int at) {
        return x.feed(four(text, at), four(text, at + 4), four(text, at + 8), four(text, at + 12), four(text, at + 16));
    }

    void tape(String text) {
        for (int at = 0; at < text.length(); at += 20) {
            feed(text, at);
        }
    }

    void text(String text, int want) {
        tape(text);
        due("text of " + text, x.text(text.length()), want);
    }

    void good(String text, int routines) {
        text(text, routines);
        fault(0, 0);
        fault(1, NONE);
    }

    void bad(String text, int kind, int place) {
        text(text, NONE);
        due("fault(0) of " + text, x.fault(0), kind);
        due("fault(1) of " + text, x.fault(1), place);
    }

    void fault(int what, int want) {
        due("fault(" + what + ")", x.fault(what), want);
    }

    void entry(int routine, boolean want) {
        due("entry(" + routine + ")", x.entry(routine), want);
    }

    void outer(int parameter, int fact, boolean want) {
        due("outer(" + parameter + ", " + fact + ")", x.outer(parameter, fact), want);
    }

    void mark(int kind, int routine, int k, int want) {
        due("mark(" + kind + ", " + routine + ", " + k + ")", x.mark(kind, routine, k), want);
    }

    void fields(int p, int q) {
        mark(2, 0, 0, p);
        mark(2, 0, 1, q);
    }

    void use(int use, int what, int want) {
        due("use(" + use + ", " + what + ")", x.use(use, what), want);
    }

    void uses(int... wanted) {
        for (int k = 0; k < wanted.length; k++) {
            use(k, 0, wanted[k]);
        }
        count(1, wanted.length);
    }

    void test(int test, int what, int want) {
        due("test(" + test + ", " + what + ")", x.test(test, what), want);
    }

    void tests(int... wanted) {
        for (int k = 0; k < wanted.length; k++) {
            test(k, 0, wanted[k]);
        }
        count(2, wanted.length);
    }

    void run(int bits, int choices, int want) {
        due("run(" + bits + ", " + choices + ")", x.run(bits, choices), want);
    }

    void ran(int what, int want) {
        due("ran(" + what + ")", x.ran(what), want);
    }

    void ran(int steps, int use, int things, int anys) {
        ran(0, steps);
        ran(1, use);
        ran(2, things);
        ran(3, anys);
    }

    /** Reads a text of one routine and more and runs it with the same bits and CHOICES. */
    void runOf(String text, int bits, int choices, int want) {
        tape(text);
        due("text of " + text, x.text(text.length()) > 0, true);
        due("run(" + bits + ", " + choices + ") of " + text, x.run(bits, choices), want);
    }

    void tries(int use, int want) {
        due("tries(" + use + ")", x.tries(use), want);
    }

    void price(int what, int n, boolean want) {
        due("price(" + what + ", " + n + ")", x.price(what, n), want);
    }

    void mend(int want) {
        due("mend()", x.mend(), want);
    }

    void mended(int what, int want) {
        due("mended(" + what + ")", x.mended(what), want);
    }

    /** The whole of a mend(): its price, its guards, and what is HELD, one by one. */
    void mendOf(int price, int guards, int... held) {
        mend(price);
        mended(0, held.length);
        mended(1, guards);
        for (int k = 0; k < held.length; k++) {
            mended(2 + k, held[k]);
        }
        mended(2 + held.length, NONE);
    }

    void count(int what, int want) {
        due("count(" + what + ")", x.count(what), want);
    }
}
