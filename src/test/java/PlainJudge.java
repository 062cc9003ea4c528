import java.util.ArrayList;
import java.util.HashMap;
import java.util.List;
import java.util.Map;

/**
 * The document written down once more, as a tree that is walked: slow, with exceptions and without any of
 * NothingJudge's short cuts, so that the two can be held against each other.
 */
final class PlainJudge {
    static final int NONE = -1;

    static final class Fault extends RuntimeException {
        final int kind;
        final int place;

        Fault(int kind, int place) {
            super(null, null, false, false);
            this.kind = kind;
            this.place = place;
        }
    }

    static final class Failed extends RuntimeException {
        final int use;

        Failed(int use) {
            super(null, null, false, false);
            this.use = use;
        }
    }

    static final class Spent extends RuntimeException {
        Spent() {
            super(null, null, false, false);
        }
    }

    record Token(String word, int place) {
        boolean isName() {
            return word.length() == 1 && word.charAt(0) >= 'a' && word.charAt(0) <= 'z';
        }

        boolean isLetter() {
            return word.length() == 1 && word.charAt(0) >= 'A' && word.charAt(0) <= 'H';
        }
    }

    static final class Value {
        String kind;
        int a;
        int b;
        int use = NONE;
        int letter;
        int place;
        List<Integer> arguments = new ArrayList<>();
    }

    static final class Statement {
        String kind;
        int name;
        int field;
        int use = NONE;
        Value value;
        int test = NONE;
        String testKind;
        List<Statement> then;
        List<Statement> otherwise = List.of();
    }

    static final class Routine {
        int letter;
        List<Integer> parameters = new ArrayList<>();
        List<Statement> body;
    }

    record Use(int letter, int place, int name) { }

    record Test(int letter, int place) { }

    static final class Thing {
        Thing p;
        Thing q;
    }

    // ---- the text

    static final class Reading {
        final List<Token> tokens = new ArrayList<>();
        final Map<Integer, Routine> routines = new HashMap<>();
        final List<Use> uses = new ArrayList<>();
        final List<Test> tests = new ArrayList<>();
        final List<Value> calls = new ArrayList<>();
        int first = NONE;
        int at;
        int letter;

        Reading(String text) {
            int k = 0;
            while (k < text.length()) {
                int end = k + 1;
                if (small(text.charAt(k))) {
                    while (end < text.length() && small(text.charAt(end))) {
                        end++;
                    }
                }
                String word = text.substring(k, end);
                if (!word.equals(" ") && !word.equals("\n")) {
                    tokens.add(new Token(word, k));
                }
                k = end;
            }
            tokens.add(new Token("", text.length()));
            while (!now().word.isEmpty()) {
                routine();
            }
            for (Value call : calls) {
                Routine routine = routines.get(call.letter);
                if (routine == null || routine.parameters.size() != call.arguments.size()) {
                    throw new Fault(4, call.place);
                }
            }
        }

        static boolean small(char c) {
            return c >= 'a' && c <= 'z';
        }

        Token now() {
            return tokens.get(at);
        }

        Fault unfit() {
            return new Fault(1, now().place);
        }

        void take(String word) {
            if (!now().word.equals(word)) {
                throw unfit();
            }
            at++;
        }

        int name() {
            if (!now().isName()) {
                throw unfit();
            }
            at++;
            return tokens.get(at - 1).word.charAt(0) - 'a';
        }

        int letter() {
            if (!now().isLetter()) {
                throw unfit();
            }
            at++;
            return tokens.get(at - 1).word.charAt(0) - 'A';
        }

        void routine() {
            int place = now().place;
            letter = letter();
            if (routines.containsKey(letter)) {
                throw new Fault(3, place);
            }
            Routine routine = new Routine();
            routine.letter = letter;
            routines.put(letter, routine);
            if (first == NONE) {
                first = letter;
            }
            names(routine.parameters, true);
            routine.body = block(1);
        }

        void names(List<Integer> into, boolean distinct) {
            take("(");
            if (now().word.equals(")")) {
                at++;
                return;
            }
            while (true) {
                int place = now().place;
                int name = name();
                if (into.size() == 4) {
                    throw new Fault(2, place);
                }
                if (distinct && into.contains(name)) {
                    throw new Fault(3, place);
                }
                into.add(name);
                if (now().word.equals(")")) {
                    at++;
                    return;
                }
                take(",");
            }
        }

        List<Statement> block(int depth) {
            int place = now().place;
            take("{");
            if (depth == 7) {
                throw new Fault(2, place);
            }
            List<Statement> statements = new ArrayList<>();
            while (!now().word.equals("}")) {
                statements.add(statement(depth));
            }
            at++;
            return statements;
        }

        int use(int place, int name) {
            if (uses.size() == 40) {
                throw new Fault(2, place);
            }
            uses.add(new Use(letter, place, name));
            take(".");
            return uses.size() - 1;
        }

        int field() {
            if (now().word.equals("p") || now().word.equals("q")) {
                return name() - 15;
            }
            throw unfit();
        }

        Statement statement(int depth) {
            Statement s = new Statement();
            Token token = now();
            if (token.isName()) {
                s.name = name();
                s.kind = "assign";
                if (now().word.equals(".")) {
                    s.kind = "store";
                    s.use = use(token.place, s.name);
                    s.field = field();
                }
                take("=");
                s.value = value();
                take(";");
            } else if (token.isLetter()) {
                s.kind = "drop";
                s.value = value();
                take(";");
            } else if (token.word.equals("return")) {
                at++;
                s.kind = "return";
                if (now().word.equals(";")) {
                    s.value = new Value();
                    s.value.kind = "nothing";
                } else {
                    s.value = value();
                }
                take(";");
            } else if (token.word.equals("if") || token.word.equals("while")) {
                at++;
                s.kind = token.word;
                test(s);
                s.then = block(depth + 1);
                if (s.kind.equals("if") && now().word.equals("else")) {
                    at++;
                    s.otherwise = block(depth + 1);
                }
            } else {
                throw unfit();
            }
            return s;
        }

        void test(Statement s) {
            Token token = now();
            if (!token.isName() && !token.word.equals("any")) {
                throw unfit();
            }
            if (tests.size() == 24) {
                throw new Fault(2, token.place);
            }
            s.test = tests.size();
            tests.add(new Test(letter, token.place));
            at++;
            s.testKind = "any";
            if (token.isName()) {
                s.name = token.word.charAt(0) - 'a';
                s.testKind = now().word;
                if (!s.testKind.equals("is") && !s.testKind.equals("not")) {
                    throw unfit();
                }
                at++;
                take("nothing");
            }
        }

        Value value() {
            Value v = new Value();
            Token token = now();
            v.place = token.place;
            v.kind = token.word;
            if (token.word.equals("nothing") || token.word.equals("any")) {
                at++;
            } else if (token.word.equals("new")) {
                at++;
                v.a = name();
                v.b = name();
            } else if (token.isName()) {
                v.kind = "name";
                v.a = name();
                if (now().word.equals(".")) {
                    v.kind = "field";
                    v.use = use(token.place, v.a);
                    v.b = field();
                }
            } else if (token.isLetter()) {
                v.kind = "call";
                v.letter = letter();
                calls.add(v);
                names(v.arguments, false);
            } else {
                throw unfit();
            }
            return v;
        }
    }

    // ---- runs

    final class Going {
        final int choices;
        int steps;
        int things;
        int anys;

        Going(int choices) {
            this.choices = choices;
        }

        Thing make() {
            if (things == 300) {
                throw new Spent();
            }
            things++;
            return new Thing();
        }

        Thing loop() {
            Thing thing = make();
            thing.p = thing;
            thing.q = thing;
            return thing;
        }

        boolean any() {
            anys++;
            return (choices >> (anys - 1) % 8 & 1) == 1;
        }

        void step() {
            if (steps == 400) {
                throw new Spent();
            }
            steps++;
        }

        Thing enter(Routine routine, Thing[] arguments, int within) {
            Thing[] names = new Thing[26];
            for (int k = 0; k < arguments.length; k++) {
                names[routine.parameters.get(k)] = arguments[k];
            }
            Object answer = all(routine.body, names, within);
            return answer == this ? null : (Thing) answer;
        }

        /** This object itself stands for coming to the end. */
        Object all(List<Statement> statements, Thing[] names, int within) {
            for (Statement s : statements) {
                step();
                Object answer = one(s, names, within);
                if (answer != this) {
                    return answer;
                }
            }
            return this;
        }

        Object one(Statement s, Thing[] names, int within) {
            switch (s.kind) {
                case "assign" -> names[s.name] = work(s.value, names, within);
                case "store" -> {
                    Thing thing = work(s.value, names, within);
                    if (names[s.name] == null) {
                        throw new Failed(s.use);
                    }
                    if (s.field == 0) {
                        names[s.name].p = thing;
                    } else {
                        names[s.name].q = thing;
                    }
                }
                case "drop" -> work(s.value, names, within);
                case "return" -> {
                    return work(s.value, names, within);
                }
                case "if" -> {
                    return all(holds(s, names) ? s.then : s.otherwise, names, within);
                }
                default -> {
                    while (holds(s, names)) {
                        Object answer = all(s.then, names, within);
                        if (answer != this) {
                            return answer;
                        }
                        step();
                    }
                }
            }
            return this;
        }

        boolean holds(Statement s, Thing[] names) {
            return s.testKind.equals("any") ? any() : s.testKind.equals("is") == (names[s.name] == null);
        }

        Thing work(Value v, Thing[] names, int within) {
            switch (v.kind) {
                case "any":
                    return any() ? loop() : null;
                case "new":
                    Thing made = make();
                    made.p = names[v.a];
                    made.q = names[v.b];
                    return made;
                case "name":
                    return names[v.a];
                case "field":
                    if (names[v.a] == null) {
                        throw new Failed(v.use);
                    }
                    return v.b == 0 ? names[v.a].p : names[v.a].q;
                case "call":
                    if (within == 12) {
                        throw new Spent();
                    }
                    Thing[] passed = new Thing[v.arguments.size()];
                    for (int k = 0; k < passed.length; k++) {
                        passed[k] = names[v.arguments.get(k)];
                    }
                    return enter(reading.routines.get(v.letter), passed, within + 1);
                default:
                    return null;
            }
        }
    }

    // ---- facts

    final class Judging {
        final Map<Integer, Integer> marks = new HashMap<>();
        final List<Integer> held;
        final boolean[] reached = new boolean[8];
        int[] used;
        int[] tested;
        boolean changed = true;
        int letter;

        Judging(List<Integer> held) {
            this.held = held;
            if (entry != NONE) {
                reached[entry] = true;
                for (int k = 0; k < told.length; k++) {
                    raise(entry * 10 + k, told[k]);
                    raise(200, told[k] & 2);
                    raise(201, told[k] & 2);
                }
            }
            while (changed) {
                changed = false;
                used = new int[reading.uses.size()];
                tested = new int[reading.tests.size()];
                for (Routine routine : reading.routines.values()) {
                    if (reached[routine.letter]) {
                        judge(routine);
                    }
                }
            }
        }

        int get(int mark) {
            return marks.getOrDefault(mark, 0);
        }

        void raise(int mark, int fact) {
            int coming = held.contains(mark) ? fact & 2 : fact;
            if ((get(mark) | coming) != get(mark)) {
                marks.put(mark, get(mark) | coming);
                changed = true;
            }
        }

        void judge(Routine routine) {
            letter = routine.letter;
            int[] names = new int[26];
            java.util.Arrays.fill(names, 1);
            for (int k = 0; k < routine.parameters.size(); k++) {
                int fact = get(letter * 10 + k);
                if (fact == 0) {
                    return;
                }
                names[routine.parameters.get(k)] = fact;
            }
            if (all(routine.body, names) != null) {
                raise(100 + letter * 10, 1);
            }
        }

        /** null: no way comes to here. */
        int[] all(List<Statement> statements, int[] names) {
            for (Statement s : statements) {
                if (names != null) {
                    names = one(s, names);
                }
            }
            return names;
        }

        int[] with(int[] names, int name, int fact) {
            if (names == null || fact == 0) {
                return null;
            }
            int[] copy = names.clone();
            copy[name] = fact;
            return copy;
        }

        int[] joined(int[] one, int[] two) {
            if (one == null || two == null) {
                return one == null ? two : one;
            }
            int[] both = new int[26];
            for (int k = 0; k < 26; k++) {
                both[k] = one[k] | two[k];
            }
            return both;
        }

        int[] after;

        int[] one(Statement s, int[] names) {
            if (s.kind.equals("if")) {
                note(s, names);
                return joined(all(s.then, end(s, names, true)), all(s.otherwise, end(s, names, false)));
            }
            if (s.kind.equals("while")) {
                int[] head = names;
                while (true) {
                    int[] again = joined(head, all(s.then, end(s, head, true)));
                    if (java.util.Arrays.equals(again, head)) {
                        break;
                    }
                    head = again;
                }
                note(s, head);
                return end(s, head, false);
            }
            int fact = work(s.value, names);
            names = after;
            if (names == null) {
                return null;
            }
            switch (s.kind) {
                case "assign":
                    return with(names, s.name, fact);
                case "store":
                    used[s.use] |= names[s.name];
                    names = with(names, s.name, names[s.name] & 2);
                    if (names != null) {
                        raise(200 + s.field, fact);
                    }
                    return names;
                case "return":
                    raise(100 + letter * 10, fact);
                    return null;
                default:
                    return names;
            }
        }

        void note(Statement s, int[] names) {
            tested[s.test] |= s.testKind.equals("any") ? 3
                : s.testKind.equals("is") ? names[s.name] : names[s.name] << 1 & 2 | names[s.name] >> 1;
        }

        int[] end(Statement s, int[] names, boolean yes) {
            if (names == null || s.testKind.equals("any")) {
                return names;
            }
            return with(names, s.name, names[s.name] & (yes == s.testKind.equals("is") ? 1 : 2));
        }

        int work(Value v, int[] names) {
            after = names;
            switch (v.kind) {
                case "any":
                    raise(200, 2);
                    raise(201, 2);
                    return 3;
                case "new":
                    raise(200, names[v.a]);
                    raise(201, names[v.b]);
                    return 2;
                case "name":
                    return names[v.a];
                case "field":
                    used[v.use] |= names[v.a];
                    after = with(names, v.a, names[v.a] & 2);
                    return get(200 + v.b);
                case "call":
                    if (!reached[v.letter]) {
                        reached[v.letter] = true;
                        changed = true;
                    }
                    for (int k = 0; k < v.arguments.size(); k++) {
                        raise(v.letter * 10 + k, names[v.arguments.get(k)]);
                    }
                    int fact = get(100 + v.letter * 10);
                    after = fact == 0 ? null : names;
                    return fact;
                default:
                    return 1;
            }
        }

        int guards() {
            int n = 0;
            for (int fact : used) {
                n += fact & 1;
            }
            return n;
        }
    }

    // ---- the face

    private final StringBuilder tape = new StringBuilder();
    private Reading reading = new Reading("");
    private int faultKind;
    private int faultPlace = NONE;
    private int entry = NONE;
    private int[] told = {};
    private final int[] prices = {3, 2, 5, 4};
    private int[] ran = {NONE, NONE, NONE, NONE};
    private List<Integer> mended;

    int feed(int a, int b, int c, int d, int e) {
        if (tape.length() > 1180) {
            return NONE;
        }
        for (int number : new int[] {a, b, c, d, e}) {
            for (int shift = 24; shift >= 0; shift -= 8) {
                tape.append((char) (number >> shift & 255));
            }
        }
        return tape.length();
    }

    int text(int n) {
        if (n < 0 || n > tape.length()) {
            return -2;
        }
        String text = tape.substring(0, n);
        tape.setLength(0);
        try {
            reading = new Reading(text);
        } catch (Fault fault) {
            faultKind = fault.kind;
            faultPlace = fault.place;
            return NONE;
        }
        faultKind = 0;
        faultPlace = NONE;
        entry = NONE;
        told = new int[0];
        entry(reading.first);
        return reading.routines.size();
    }

    int fault(int what) {
        return what == 0 ? faultKind : what == 1 ? faultPlace : NONE;
    }

    boolean entry(int routine) {
        Routine found = reading.routines.get(routine);
        if (found == null) {
            return false;
        }
        entry = routine;
        told = new int[found.parameters.size()];
        java.util.Arrays.fill(told, 3);
        return true;
    }

    boolean outer(int parameter, int fact) {
        if (parameter < 0 || parameter >= told.length || fact < 1 || fact > 3) {
            return false;
        }
        told[parameter] = fact;
        return true;
    }

    private Judging plain() {
        return new Judging(List.of());
    }

    int mark(int kind, int routine, int k) {
        if (kind == 2) {
            return k < 0 || k > 1 ? NONE : plain().get(200 + k);
        }
        Routine found = reading.routines.get(routine);
        if (found == null) {
            return NONE;
        }
        if (kind == 1) {
            return plain().get(100 + routine * 10);
        }
        return kind == 0 && k >= 0 && k < found.parameters.size() ? plain().get(routine * 10 + k) : NONE;
    }

    int use(int use, int what) {
        if (use < 0 || use >= reading.uses.size() || what < 0 || what > 3) {
            return NONE;
        }
        Use u = reading.uses.get(use);
        return what == 0 ? new int[] {0, 3, 1, 2}[plain().used[use]]
            : what == 1 ? u.letter : what == 2 ? u.place : u.name;
    }

    int test(int test, int what) {
        if (test < 0 || test >= reading.tests.size() || what < 0 || what > 2) {
            return NONE;
        }
        Test t = reading.tests.get(test);
        return what == 0 ? new int[] {3, 1, 2, 0}[plain().tested[test]] : what == 1 ? t.letter : t.place;
    }

    private boolean possible(int bits) {
        if (entry == NONE || bits < 0 || bits >= 1 << told.length) {
            return false;
        }
        for (int k = 0; k < told.length; k++) {
            if ((told[k] >> (bits >> k & 1) & 1) == 0) {
                return false;
            }
        }
        return true;
    }

    private int[] going(int bits, int choices) {
        Going going = new Going(choices);
        Thing[] passed = new Thing[told.length];
        int outcome;
        int failed = NONE;
        try {
            for (int k = 0; k < passed.length; k++) {
                passed[k] = (bits >> k & 1) == 1 ? going.loop() : null;
            }
            outcome = going.enter(reading.routines.get(entry), passed, 0) == null ? 0 : 1;
        } catch (Failed f) {
            outcome = 2;
            failed = f.use;
        } catch (Spent s) {
            outcome = 3;
        }
        return new int[] {going.steps, failed, going.things, going.anys, outcome};
    }

    int run(int bits, int choices) {
        if (choices < 0 || choices > 255 || !possible(bits)) {
            return NONE;
        }
        ran = going(bits, choices);
        return ran[4];
    }

    int ran(int what) {
        return what < 0 || what > 3 ? NONE : ran[what];
    }

    int tries(int use) {
        if (use < 0 || use >= reading.uses.size()) {
            return NONE;
        }
        for (int bits = 0; bits < 16; bits++) {
            for (int choices = 0; choices < 256 && possible(bits); choices++) {
                int[] result = going(bits, choices);
                if (result[4] == 2 && result[1] == use) {
                    return bits * 256 + choices;
                }
            }
        }
        return NONE;
    }

    boolean price(int what, int n) {
        if (what < 0 || what > 3 || n < 1 || n > 99) {
            return false;
        }
        prices[what] = n;
        return true;
    }

    int mend() {
        if (entry == NONE) {
            return NONE;
        }
        Judging plain = plain();
        List<Integer> candidates = new ArrayList<>();
        for (int mark = 0; mark < 202; mark++) {
            boolean outer = mark < 100 && mark / 10 == entry;
            if (plain.get(mark) == 3 && !outer && candidates.size() < 10) {
                candidates.add(mark);
            }
        }
        int best = Integer.MAX_VALUE;
        for (int set = 0; set < 1 << candidates.size(); set++) {
            List<Integer> held = new ArrayList<>();
            int cost = 0;
            for (int k = 0; k < candidates.size(); k++) {
                if ((set >> k & 1) == 1) {
                    held.add(candidates.get(k));
                    cost += prices[candidates.get(k) / 100];
                }
            }
            int guards = new Judging(held).guards();
            cost += guards * prices[3];
            if (cost < best) {
                best = cost;
                mended = new ArrayList<>();
                mended.add(held.size());
                mended.add(guards);
                mended.addAll(held);
            }
        }
        return best;
    }

    int mended(int what) {
        return mended == null || what < 0 || what >= mended.size() ? NONE : mended.get(what);
    }

    int count(int what) {
        switch (what) {
            case 0:
                return reading.routines.size();
            case 1:
                return reading.uses.size();
            case 2:
                return reading.tests.size();
            case 3:
                return entry;
            case 4:
            case 5:
                int n = 0;
                for (int fact : plain().used) {
                    n += fact == (what == 4 ? 3 : 1) ? 1 : 0;
                }
                return n;
            default:
                return NONE;
        }
    }
}
