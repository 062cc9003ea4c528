import java.util.Random;

/** Made-up programs, whole and broken ones: NothingJudge and PlainJudge must answer every call alike. */
public final class TwoJudgesTest {
    private static int wrong;
    private static long calls;

    private final Random random;
    private final NothingJudge judge = new NothingJudge();
    private final PlainJudge plain = new PlainJudge();
    private final StringBuilder log = new StringBuilder();
    private int letters;
    private int[] arities;
    private int names;
    private int budget;

    private TwoJudgesTest(long seed) {
        random = new Random(seed);
    }

    public static void main(String[] args) {
        int from = args.length > 0 ? Integer.parseInt(args[0]) : 0;
        int to = args.length > 1 ? Integer.parseInt(args[1]) : 700;
        for (int seed = from; seed < to && wrong < 5; seed++) {
            new TwoJudgesTest(seed).compare();
        }
        System.out.println(calls + " calls of two judges, " + wrong + " answered differently");
        System.exit(wrong == 0 ? 0 : 1);
    }

    private void compare() {
        askAll();
        int texts = 1 + random.nextInt(3);
        for (int k = 0; k < texts && wrong < 5; k++) {
            String text = program();
            if (random.nextInt(3) == 0) {
                text = broken(text);
            }
            if (text.length() > 1200) {
                text = text.substring(0, 1200);
            }
            give(text);
            askAll();
            int routines = judge.count(0);
            for (int change = 0; change < 3; change++) {
                if (random.nextBoolean()) {
                    int routine = random.nextInt(9) - (random.nextInt(5) == 0 ? 1 : 0);
                    same("entry(" + routine + ")", judge.entry(routine) ? 1 : 0, plain.entry(routine) ? 1 : 0);
                }
                for (int p = 0; p < 2; p++) {
                    int parameter = random.nextInt(6) - 1;
                    int fact = random.nextInt(5);
                    same("outer(" + parameter + ", " + fact + ")", judge.outer(parameter, fact) ? 1 : 0,
                        plain.outer(parameter, fact) ? 1 : 0);
                }
                int what = random.nextInt(6) - 1;
                int n = random.nextInt(4) == 0 ? random.nextInt(110) - 5 : 1 + random.nextInt(9);
                same("price(" + what + ", " + n + ")", judge.price(what, n) ? 1 : 0, plain.price(what, n) ? 1 : 0);
                askAll();
                if (routines == 0) {
                    break;
                }
            }
        }
    }

    private void same(String call, int got, int want) {
        calls++;
        if (got != want && wrong++ < 5) {
            System.out.println(log);
            System.out.println(call + " answered " + got + ", the plain judge " + want);
        }
        if (call.startsWith("entry") || call.startsWith("outer") || call.startsWith("price")) {
            log.append(call).append(" = ").append(got).append('\n');
        }
    }

    private void give(String text) {
        log.append("TEXT ").append(text).append('\n');
        for (int at = 0; at < text.length(); at += 20) {
            int[] five = new int[5];
            for (int k = 0; k < 20; k++) {
                int c = at + k < text.length() ? text.charAt(at + k) : ' ';
                five[k / 4] = five[k / 4] << 8 | c;
            }
            same("feed", judge.feed(five[0], five[1], five[2], five[3], five[4]),
                plain.feed(five[0], five[1], five[2], five[3], five[4]));
        }
        int over = random.nextInt(3000) - 1000;
        if (over < 0 || over > text.length() + 20) {
            same("text(" + over + ")", judge.text(over), plain.text(over));
        }
        same("text", judge.text(text.length()), plain.text(text.length()));
    }

    private void askAll() {
        for (int what = -1; what < 7; what++) {
            same("count(" + what + ")", judge.count(what), plain.count(what));
        }
        for (int what = -1; what < 3; what++) {
            same("fault(" + what + ")", judge.fault(what), plain.fault(what));
        }
        for (int routine = -1; routine < 9; routine++) {
            for (int k = -1; k < 5; k++) {
                same("mark(0, " + routine + ", " + k + ")", judge.mark(0, routine, k), plain.mark(0, routine, k));
            }
            same("mark(1, " + routine + ", 7)", judge.mark(1, routine, 7), plain.mark(1, routine, 7));
            same("mark(3, " + routine + ", 0)", judge.mark(3, routine, 0), plain.mark(3, routine, 0));
        }
        for (int k = -1; k < 3; k++) {
            same("mark(2, 9, " + k + ")", judge.mark(2, 9, k), plain.mark(2, 9, k));
        }
        for (int use = -1; use <= plain.count(1); use++) {
            for (int what = -1; what < 5; what++) {
                same("use(" + use + ", " + what + ")", judge.use(use, what), plain.use(use, what));
            }
        }
        for (int test = -1; test <= plain.count(2); test++) {
            for (int what = -1; what < 4; what++) {
                same("test(" + test + ", " + what + ")", judge.test(test, what), plain.test(test, what));
            }
        }
        askRuns();
        same("mend()", judge.mend(), plain.mend());
        for (int what = -1; what < 14; what++) {
            same("mended(" + what + ")", judge.mended(what), plain.mended(what));
        }
    }

    private void askRuns() {
        for (int k = 0; k < 12; k++) {
            int bits = random.nextInt(18) - 1;
            int choices = random.nextInt(5) == 0 ? random.nextInt(300) - 20 : random.nextInt(256);
            if (random.nextBoolean()) {
                bits &= 3;
            }
            same("run(" + bits + ", " + choices + ")", judge.run(bits, choices), plain.run(bits, choices));
            for (int what = -1; what < 5; what++) {
                same("ran(" + what + ") of run(" + bits + ", " + choices + ")", judge.ran(what), plain.ran(what));
            }
        }
        for (int use = -1; use <= plain.count(1); use++) {
            same("tries(" + use + ")", judge.tries(use), plain.tries(use));
        }
        for (int what = 0; what < 4; what++) {
            same("ran(" + what + ") behind tries", judge.ran(what), plain.ran(what));
        }
    }

    // ---- programs

    private String program() {
        letters = 1 + random.nextInt(random.nextInt(4) == 0 ? 8 : 4);
        names = 1 + random.nextInt(6);
        budget = 1 + random.nextInt(random.nextInt(4) == 0 ? 110 : 30);
        arities = new int[letters];
        for (int k = 0; k < letters; k++) {
            arities[k] = random.nextInt(random.nextInt(5) == 0 ? 5 : 3);
        }
        int turn = random.nextInt(letters);
        StringBuilder text = new StringBuilder();
        for (int k = 0; k < letters; k++) {
            int letter = (k + turn) % letters;
            text.append((char) ('A' + letter)).append('(');
            for (int p = 0; p < arities[letter]; p++) {
                text.append(p == 0 ? "" : ",").append((char) ('a' + (p * 7 + letter) % 26 % Math.max(names, 1) + p * 6));
            }
            text.append(")");
            block(text, 1);
            text.append(random.nextInt(3) == 0 ? "\n" : "");
        }
        return text.toString();
    }

    private void block(StringBuilder text, int depth) {
        text.append("{");
        int statements = random.nextInt(depth == 1 ? 9 : 4);
        for (int k = 0; k < statements && budget > 0; k++) {
            budget--;
            statement(text, depth);
        }
        text.append("}");
    }

    private void statement(StringBuilder text, int depth) {
        int dice = random.nextInt(20);
        if (dice < 8) {
            text.append(name()).append("=").append(value()).append(";");
        } else if (dice < 11) {
            text.append(name()).append(".").append(random.nextBoolean() ? 'p' : 'q').append("=").append(value()).append(";");
        } else if (dice < 13) {
            text.append(call()).append(";");
        } else if (dice < 14) {
            text.append("return").append(random.nextInt(3) == 0 ? "" : " " + value()).append(";");
        } else if (depth < 6 || random.nextInt(30) == 0) {
            boolean isIf = dice < 18;
            text.append(isIf ? "if " : "while ");
            int kind = random.nextInt(3);
            text.append(kind == 0 ? "any" : name() + (kind == 1 ? " is nothing" : " not nothing"));
            block(text, depth + 1);
            if (isIf && random.nextBoolean()) {
                text.append(random.nextBoolean() ? "else" : " else ");
                block(text, depth + 1);
            }
        } else {
            text.append(name()).append("=").append(value()).append(";");
        }
    }

    private String value() {
        switch (random.nextInt(9)) {
            case 0:
                return "nothing";
            case 1:
            case 2:
                return "any";
            case 3:
                return "new " + name() + " " + name();
            case 4:
                return String.valueOf(name());
            case 5:
            case 6:
                return name() + "." + (random.nextBoolean() ? 'p' : 'q');
            default:
                return call();
        }
    }

    private String call() {
        int letter = random.nextInt(letters);
        StringBuilder text = new StringBuilder().append((char) ('A' + letter)).append('(');
        for (int k = 0; k < arities[letter]; k++) {
            text.append(k == 0 ? "" : ", ").append(name());
        }
        return text.append(')').toString();
    }

    private char name() {
        int k = random.nextInt(names);
        return (char) ('a' + (random.nextInt(4) == 0 ? k + 6 * random.nextInt(4) : k) % 26);
    }

    private String broken(String text) {
        StringBuilder out = new StringBuilder(text);
        String bits = "abpqzABHI(){},;=. \n\t09x\u00ff\u0000_";
        String[] words = {"if ", "else", "while ", "is ", " nothing", "new ", "any", "return", "{{{{{{{", "a,b,c,d,e", "x.p", "()"};
        int changes = 1 + random.nextInt(2);
        for (int k = 0; k < changes && out.length() > 0; k++) {
            int at = random.nextInt(out.length());
            switch (random.nextInt(5)) {
                case 0:
                    out.deleteCharAt(at);
                    break;
                case 1:
                    out.insert(at, bits.charAt(random.nextInt(bits.length())));
                    break;
                case 2:
                    out.setCharAt(at, bits.charAt(random.nextInt(bits.length())));
                    break;
                case 3:
                    out.insert(at, words[random.nextInt(words.length)]);
                    break;
                default:
                    out.setLength(at);
                    break;
            }
        }
        return out.toString();
    }
}
