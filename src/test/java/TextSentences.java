/** Part 1 of the document's terms, TEXTS and FAULTS, and promises 1 to 4. */
final class TextSentences extends Sheet {
    private static final String[] TOKENS = {
        "x", "p", "q", "B", "(", ")", "{", "}", ",", ";", "=", ".", "if", "else", "while", "is", "not", "nothing",
        "new", "any", "return", "I", "Z", "xy", "1", "_", "\t", "\r", "\0", "!", "<", "[", "\u007f", "\u0080", "\u00e1",
        "\u00ff"
    };
    private static final String NAMES = "x p q";
    private static final String VALUES = "nothing any new x p q B";
    private static final String STATEMENTS = "x p q B return if while }";

    @Override
    void check() {
        letters();
        grammar();
        numbering();
        firstFaults();
        tokens();
        tooMuch();
        toldAlready();
        calls();
        newObject();
        feed();
        text();
        fault();
    }

    /** Behind a prefix these TOKENS can stand and no others, nor can the text end. */
    private void follows(String prefix, String allowed) {
        bad(prefix, 1, prefix.length());
        bad(prefix + " \n ", 1, prefix.length() + 3);
        followsOrEnds(prefix, allowed);
    }

    private void followsOrEnds(String prefix, String allowed) {
        String wanted = " " + allowed + " ";
        for (String token : TOKENS) {
            String text = prefix + " " + token;
            text(text + " 1", NONE);
            fault(0, 1);
            int place = wanted.contains(" " + token + " ") ? text.length() + 1 : prefix.length() + 1;
            due("fault(1) of " + text + " 1", x.fault(1), place);
        }
    }

    private void letters() {
        says("Blanks 10, 32.");
        good("\n \nA \n( \n) \n{ x\n= \nnew\n x  x\n\n; \n} \n", 1);
        good("A(x){if x is\nnothing{}else\n{}while\nx\nnot\nnothing{}return\nany;}", 1);
        for (int code = 0; code < 256; code++) {
            String text = "A(){}" + (char) code;
            if (code == 10 || code == 32) {
                good(text, 1);
            } else if (code == 'A') {
                bad(text, 3, 5);
            } else if (code >= 'B' && code <= 'H') {
                bad(text, 1, 6);
            } else {
                bad(text, 1, 5);
            }
        }
        bad("A(){x=no thing;}", 1, 6);
        bad("A(){x=nothing\n\n\n}", 1, 16);

        says("Letters a .. z are NAMES (of one letter), A .. H routines;");
        for (char name = 'a'; name <= 'z'; name++) {
            good("A(" + name + "){" + name + ".p=" + name + ";}", 1);
            use(0, 3, name - 'a');
        }
        for (char letter = 'A'; letter <= 'Z'; letter++) {
            if (letter <= 'H') {
                good(letter + "(){" + letter + "();}", 1);
                count(3, letter - 'A');
            } else {
                bad(letter + "(){}", 1, 0);
                bad("A(){" + letter + "();}", 1, 4);
            }
        }
        bad("`(){}", 1, 0);
        bad("{(){}", 1, 0);
        bad("@(){}", 1, 0);
        bad("A(`){}", 1, 2);
        bad("A({){}", 1, 2);
        bad("A(B){}", 1, 2);
        bad("a(){}", 1, 0);

        says("words (two small letters and more in a row): if else while is not nothing new any return.");
        String[] places = {
            "A(){|if| any{}}", "A(){if any{}|else|{}}", "A(){|while| any{}}", "A(){if x |is| nothing{}}",
            "A(){if x |not| nothing{}}", "A(){if x is |nothing|{}}", "A(){x=|nothing|;}", "A(){x=|new| x x;}",
            "A(){x=|any|;}", "A(){while |any|{}}", "A(){|return|;}", "A(){|return| x;}"
        };
        for (String place : places) {
            String[] parts = place.split("\\|");
            int at = parts[0].length();
            good(parts[0] + parts[1] + parts[2], 1);
            bad(parts[0] + parts[1] + "e" + parts[2], 1, at);
            bad(parts[0] + "e" + parts[1] + parts[2], 1, at);
            bad(parts[0] + parts[1] + parts[1] + parts[2], 1, at);
            for (int k = 0; k < parts[1].length(); k++) {
                String other = parts[1].substring(0, k) + "k" + parts[1].substring(k + 1);
                bad(parts[0] + other + parts[2], 1, at);
            }
        }
        bad("A(xy){}", 1, 2);
        bad("A(is){}", 1, 2);
        bad("A(){x=newx x;}", 1, 6);
        bad("A(){x=new xx;}", 1, 10);
        bad("A(){ifany{}}", 1, 4);
        bad("A(){if xis nothing{}}", 1, 7);
        bad("A(){returnx;}", 1, 4);
        good("A(){return\nx;if x is nothing{}}", 1);
        tape("A(){return;}");
        due("a word cut by the text's end", x.text(9), NONE);
        fault(1, 4);
        tape("A(){return;}");
        due("a text that ends behind a word", x.text(10), NONE);
        fault(1, 10);
    }

    private void grammar() {
        says("PROGRAM: { ROUTINE }.");
        good("", 0);
        good("  \n", 0);
        good("A(){}", 1);
        good("H(){}G(){}F(){}E(){}D(){}C(){}B(){}A(){}", 8);
        followsOrEnds("", "B");
        followsOrEnds("A(){}", "B");

        says("ROUTINE: LETTER '(' [ NAME { ',' NAME } ] ')' BLOCK.");
        good("A(x){}B(x,y){}C(x,y,z){}", 3);
        follows("A", "(");
        follows("A(", NAMES + " )");
        follows("A(a", ", )");
        follows("A(a,", NAMES);
        follows("A(a,b,c", ", )");
        follows("A(a,b,c,d", ", )");
        follows("A()", "{");
        follows("A(a,b)", "{");

        says("BLOCK: '{' { STATEMENT } '}'.");
        good("A(){x=x;x=x;B();}B(){if any{}}", 2);
        follows("A(){", STATEMENTS);
        follows("A(){x=x;", STATEMENTS);
        follows("A(){if any{", STATEMENTS);
        follows("A(){while any{x=x;", STATEMENTS);
        followsOrEnds("A(){x=x;}", "B");

        says("STATEMENT: NAME '=' VALUE ';' | NAME '.' FIELD '=' VALUE ';' | CALL ';' | return [ VALUE ] ';' "
            + "| if TEST BLOCK [ else BLOCK ] | while TEST BLOCK.");
        follows("A(){a", "= .");
        follows("A(){a=", VALUES);
        follows("A(){a=nothing", ";");
        follows("A(){a.p", "=");
        follows("A(){a.q=", VALUES);
        follows("A(){a.q=any", ";");
        follows("A(){B()", ";");
        follows("A(){return", VALUES + " ;");
        follows("A(){return any", ";");
        follows("A(){return;", STATEMENTS);
        follows("A(){if", NAMES + " any");
        follows("A(){if any", "{");
        follows("A(){if any{}", STATEMENTS + " else");
        follows("A(){if any{}else", "{");
        follows("A(){if any{}else{", STATEMENTS);
        follows("A(){if any{}else{}", STATEMENTS);
        follows("A(){while", NAMES + " any");
        follows("A(){while any", "{");
        follows("A(){while any{}", STATEMENTS);
        follows("A(){if any{while any{}", STATEMENTS);
        follows("A(){if any{while any{}}", STATEMENTS + " else");

        says("TEST: NAME is nothing | NAME not nothing | any.");
        follows("A(){if x", "is not");
        follows("A(){if x is", "nothing");
        follows("A(){if x not", "nothing");
        follows("A(){if x is nothing", "{");
        follows("A(){if x not nothing", "{");
        follows("A(){while p", "is not");
        follows("A(){while p is", "nothing");
        follows("A(){while p not", "nothing");
        follows("A(){while p is nothing", "{");
        follows("A(){while p not nothing", "{");

        says("VALUE: nothing | any | new NAME NAME | NAME | NAME '.' FIELD | CALL.");
        good("A(){p=nothing;p=any;p=new p q;p=p;p=p.q;p=A();q.p=nothing;q.p=any;q.p=new p q;q.p=p;q.p=p.q;"
            + "q.p=A();return nothing;return any;return new p q;return p;return p.q;return A();return;}", 1);
        for (String ahead : new String[] {"A(){a=", "A(){a.p=", "A(){return "}) {
            follows(ahead + "nothing", ";");
            follows(ahead + "any", ";");
            follows(ahead + "new", NAMES);
            follows(ahead + "new a", NAMES);
            follows(ahead + "new a b", ";");
            follows(ahead + "a", "; .");
            follows(ahead + "a.p", ";");
            follows(ahead + "B", "(");
            follows(ahead + "B()", ";");
        }

        says("CALL: LETTER '(' [ NAME { ',' NAME } ] ')'.");
        for (String ahead : new String[] {"A(){", "A(){a=", "A(){a.p=", "A(){return "}) {
            follows(ahead + "B", "(");
            follows(ahead + "B(", NAMES + " )");
            follows(ahead + "B(a", ", )");
            follows(ahead + "B(a,", NAMES);
            follows(ahead + "B(a,a,a,a", ", )");
            follows(ahead + "B(a,a,a,a)", ";");
        }
        good("A(x){A(x);}", 1);
        good("A(x,y){A(x,x);y=A(y,x);}", 1);

        says("FIELD: p or q.");
        for (char field = 'a'; field <= 'z'; field++) {
            for (String ahead : new String[] {"A(){a.", "A(){a=b.", "A(){return b."}) {
                String behind = ahead.equals("A(){a.") ? "=a;}" : ";}";
                if (field == 'p' || field == 'q') {
                    good(ahead + field + behind, 1);
                } else {
                    bad(ahead + field + behind, 1, ahead.length());
                }
            }
        }
        follows("A(){a.", "p q");
        follows("A(){a=b.", "p q");
        follows("A(){return b.", "p q");
        bad("A(){a.pq=a;}", 1, 6);
        bad("A(){a.pp=a;}", 1, 6);
        bad("A(){a=b.A;}", 1, 8);
    }

    private void numbering() {
        says("USES: each NAME ahead of a '.', numbered along the text, TESTS (of if, while) likewise.");
        String text = "B(){a.p=b.q;while any{c=d.p;}}A(){if x is nothing{return z . q;}e=e;if any{}}";
        good(text, 2);
        count(1, 4);
        count(2, 3);
        String names = "abdz";
        int[] owners = {1, 1, 1, 0};
        int[] places = {4, 8, 24, 57};
        for (int k = 0; k < 4; k++) {
            use(k, 1, owners[k]);
            use(k, 2, places[k]);
            use(k, 3, names.charAt(k) - 'a');
            due("a NAME stands there", text.charAt(places[k]), names.charAt(k));
        }
        test(0, 2, text.indexOf("any"));
        test(1, 2, text.indexOf("x is"));
        test(2, 2, text.lastIndexOf("any"));
        test(0, 1, 1);
        test(1, 1, 0);
        good("A(){a=any;b=new a a;A();return a;}", 1);
        count(1, 0);
        count(2, 0);
    }

    private void firstFaults() {
        says("FAULTS, the first along the text (of one place the least):");
        bad("A(a,a){x y}", 3, 4);
        bad("A(x y){}A(){}", 1, 4);
        bad("A(a,b,c,d,e,e){1", 2, 10);
        bad("A(a,a,c,d,e){}", 3, 4);
        bad("A(){}A(a,a){}", 3, 5);
        bad("A(a,b,c,d,a){}", 2, 10);
        bad("A(a,b,c,d,A){}", 1, 10);
        bad("A(a,b,c,d,de){}", 1, 10);
        bad("A(){A(a,a,a,a,1);}", 1, 14);
        bad("A(){" + times("if any{", 5) + "{", 1, 39);
        bad("A(){" + times("if any{", 5) + "if any{1", 2, 45);
        bad("A(){" + times("if any{", 5) + "if any 1{", 1, 46);
        bad("A(){" + times("if any{}", 24) + "if new{}", 1, 199);
        bad("A(){" + times("if any{}", 24) + "if xy is nothing{}", 1, 199);
        bad("A(){" + times("if any{}", 24) + "if x{}", 2, 199);
        bad("A(){" + times("a.p=a;", 40) + "a b.p", 1, 246);
        bad("A(){" + times("a.p=a;", 40) + "a=new b.p", 1, 251);
        bad("A(){" + times("a.p=a;", 40) + "a.1", 2, 244);
        bad("A(){" + times("a.p=a;", 40) + "B(b.p)", 1, 247);
        bad("A(){" + times("a.p=a;", 40) + "if b.p", 1, 248);
        bad("A(){B();}B(x){}1", 1, 15);
    }

    private void tokens() {
        says("1 a TOKEN that is none or can't stand there (the length, if more must come).");
        bad("A(){x=1;}", 1, 6);
        bad("A(){x=\u00e1;}", 1, 6);
        bad("A(){x=ab;}", 1, 6);
        bad("A(){x=return;}", 1, 6);
        bad("A(){};", 1, 5);
        bad("A(){}}", 1, 5);
        String whole = "A|(|a|,|b|)|{|if| a| is| nothing|{|a|=|b|.|q|;|}|else|{|b|.|p|=|new| a| b|;|}|while| any|{|"
            + "A|(|a|,|b|)|;|}|return| A|(|b|,|a|)|;|}";
        good(whole.replace("|", ""), 1);
        for (int cut = whole.indexOf('|'); cut >= 0; cut = whole.indexOf('|', cut + 1)) {
            String begun = whole.substring(0, cut).replace("|", "");
            bad(begun, 1, begun.length());
            bad(begun + "\n  \n", 1, begun.length() + 4);
            tape(whole.replace("|", ""));
            due("the first bytes, " + begun, x.text(begun.length()), NONE);
            fault(0, 1);
            fault(1, begun.length());
        }
    }

    private void tooMuch() {
        says("2 too much: a fifth parameter or argument, a seventh open '{', a 41st USE, a 25th TEST (at it).");
        good("A(a,b,c,d){A(d,c,b,a);}", 1);
        bad("A(a,b,c,d,e){}", 2, 10);
        bad("A(){}B(a,b,c,d, e", 2, 16);
        bad("A(){A(a,a,a,a,a);}", 2, 14);
        bad("A(){a=A(a,a,a,a, a", 2, 17);
        bad("A(){a.p=A(a,a,a,a,a);}", 2, 18);
        bad("A(){return A(a,a,a,a,a);}", 2, 21);

        String five = times("if any{", 5);
        good("A(){" + five + times("}", 6), 1);
        bad("A(){" + five + "if any {", 2, 46);
        bad("A(){" + five + "while x is nothing{", 2, 57);
        good("A(){" + five + "}else{}if any{}" + times("}", 5) + "B(){" + five + times("}", 6), 2);
        bad("A(){" + five + "}else{if any{", 2, 51);
        bad("A(){" + times("while any{", 4) + "if any{}else{if any{", 2, 63);
        good("A(){" + times("if any{}else{}", 12) + "}", 1);

        good("A(){" + times("a.p=a;", 40) + "}", 1);
        count(1, 40);
        use(39, 2, 238);
        bad("A(){" + times("a.p=a;", 40) + "a.q=a;}", 2, 244);
        bad("A(){" + times("a.p=a;", 40) + "a=b.q;}", 2, 246);
        bad("A(){" + times("a.p=a;", 40) + "return b .q;}", 2, 251);
        bad("A(){" + times("a=a.p;", 39) + "b.p=c.q;}", 2, 242);
        good("A(){" + times("a.p=b.q;", 20) + "}B(){b=c;}", 2);
        bad("A(){" + times("a.p=b.q;", 20) + "}B(){b=c.q;}", 2, 171);

        good("A(){" + times("if any{}", 12) + "}B(){" + times("while x is nothing{}", 12) + "}", 2);
        count(2, 24);
        test(23, 2, 331);
        bad("A(){" + times("if any{}", 12) + "}B(){" + times("while x is nothing{}", 12) + "if  any{}}", 2, 349);
        bad("A(){" + times("if any{}", 24) + "while x is nothing{}}", 2, 202);
        bad("A(){" + times("if any{}", 24) + "if any", 2, 199);
    }

    private void toldAlready() {
        says("3 a routine told already, a parameter told already in its routine (at it).");
        for (char letter = 'A'; letter <= 'H'; letter++) {
            bad(letter + "(){} " + letter + "(x){}", 3, 6);
            bad(letter + "(){}" + (letter == 'A' ? "B" : "A") + "(){}" + letter, 3, 10);
        }
        good("A(){}B(){}C(){}D(){}E(){}F(){}G(){}H(){}", 8);
        bad("A(){}B(){}C(){}D(){}E(){}F(){}G(){}H(){}H(){}", 3, 40);
        for (char name = 'a'; name <= 'z'; name++) {
            bad("A(" + name + "," + name + "){}", 3, 4);
        }
        bad("A(a,b,a){}", 3, 6);
        bad("A(a,b,c,a){}", 3, 8);
        bad("A(a,b,c,b){}", 3, 8);
        bad("A(a,b,c,c", 3, 8);
        good("A(a,b){}B(a,b){}C(b,a){}", 3);
        good("A(a){A(a);}", 1);
        good("A(){}", 1);
        good("A(x){}", 1);
    }

    private void calls() {
        says("Then, if there is none, 4: the first CALL of a routine that the text has not, or with another number of "
            + "arguments (at its LETTER).");
        bad("A(){B();}", 4, 4);
        bad("A(){a=B();}", 4, 6);
        bad("A(){a.p=B();}", 4, 8);
        bad("A(){return B();}", 4, 11);
        bad("A(){return; H();}", 4, 12);
        bad("A(){while any{if x is nothing{}else{B();}}}", 4, 36);
        good("A(){B();}B(){A();}", 2);
        for (int told = 0; told <= 4; told++) {
            for (int given = 0; given <= 4; given++) {
                String head = "a,b,c,d".substring(0, Math.max(0, told * 2 - 1));
                String call = "x,x,x,x".substring(0, Math.max(0, given * 2 - 1));
                String text = "A(){B(" + call + ");}B(" + head + "){}";
                if (told == given) {
                    good(text, 2);
                } else {
                    bad(text, 4, 4);
                }
            }
        }
        bad("A(){B(x);C();B();}B(x){}", 4, 9);
        bad("A(){B(x);B();C();}B(x){}", 4, 9);
        bad("B(x){A(x);B();}A(){C();}", 4, 5);
        bad("A(){B();}B(x,x){}", 3, 13);
        bad("A(){B();}C(){", 1, 13);
        bad("A(x){A();}", 4, 5);
    }

    private void newObject() {
        says("No routines, an empty TAPE.");
        count(0, 0);
        count(1, 0);
        count(2, 0);
        count(3, NONE);
        count(4, 0);
        count(5, 0);
        for (int letter = -1; letter <= 8; letter++) {
            entry(letter, false);
            outer(letter, 3, false);
            mark(0, letter, 0, NONE);
            mark(1, letter, 0, NONE);
        }
        fields(0, 0);
        use(0, 0, NONE);
        test(0, 0, NONE);
        run(0, 0, NONE);
        ran(0, NONE);
        tries(0, NONE);
        mend(NONE);
        mended(0, NONE);
        due("text(1)", x.text(1), -2);
        fault(0, 0);
        fault(1, NONE);
        due("text(0)", x.text(0), 0);
        due("the first feed", x.feed(0, 0, 0, 0, 0), 20);
    }

    private void feed() {
        says("Twenty bytes come behind the TAPE, four of each number, the highest first: how many it has;");
        due("feed", x.feed(0x41287829, 0x7b782e70, 0x3d793b7d, 0x42282920, 0x7b7d0a20), 20);
        due("text(20)", x.text(20), 2);
        use(0, 2, 5);
        due("feed", x.feed(0x41282920, 0x20202020, 0x20202020, 0x20202020, 0x2020207b), 20);
        due("feed", x.feed(0x7d422829, 0x20202020, 0x20202020, 0x20202020, 0x20207b7d), 40);
        due("text(40)", x.text(40), 2);
        for (int place = 0; place < 20; place++) {
            int[] numbers = {0x20202020, 0x20202020, 0x20202020, 0x20202020, 0x20202020};
            numbers[place / 4] ^= (0x20 ^ 0xff) << 24 - place % 4 * 8;
            due("feed", x.feed(numbers[0], numbers[1], numbers[2], numbers[3], numbers[4]), 20);
            due("text(20)", x.text(20), NONE);
            fault(1, place);
        }
        due("feed of the least numbers", x.feed(MIN, MIN, MIN, MIN, MIN), 20);
        due("feed of the greatest numbers", x.feed(MAX, MAX, MAX, MAX, MAX), 40);
        due("feed of -1", x.feed(-1, -1, -1, -1, -1), 60);
        due("text(60)", x.text(60), NONE);
        fault(1, 0);

        says("NONE, and none come, if it would have more than 1200.");
        String full = "A(){" + times("a=b;", 298) + "} B(){";
        full = full.substring(0, 1197) + "  A";
        for (int at = 0; at < 1200; at += 20) {
            due("feed at " + at, feed(full, at), at + 20);
        }
        for (int k = 0; k < 3; k++) {
            due("feed of a full TAPE", x.feed(0, 0, 0, 0, 0), NONE);
        }
        due("text(1201)", x.text(1201), -2);
        due("feed of a full TAPE", x.feed(0, 0, 0, 0, 0), NONE);
        due("text(1200)", x.text(1200), NONE);
        fault(0, 3);
        fault(1, 1199);
        due("feed of the empty TAPE", x.feed(0x20202020, 0x20202020, 0x20202020, 0x20202020, 0x20202020), 20);
        due("text(20)", x.text(20), 0);
        text(full.substring(0, 1197), 1);
        run(0, 0, 0);
        ran(0, 298);
        String[] last = {"x", "any", "ano", "nothing", "1"};
        int[] places = {1200, 1200, 1197, 1200, 1199};
        for (int k = 0; k < last.length; k++) {
            String ahead = "A(){" + times("a=b;", 290);
            bad(ahead + times(" ", 1198 - ahead.length() - last[k].length()) + "x=" + last[k], 1, places[k]);
        }
    }

    private void text() {
        says("The TAPE's first n bytes (it is empty then) are the PROGRAM: how many routines;");
        tape("A(){}B(){}C(){}   ");
        due("text(10)", x.text(10), 2);
        count(0, 2);
        due("text(1)", x.text(1), -2);
        due("feed", x.feed(0x20202020, 0x20202020, 0x20202020, 0x20202020, 0x20202020), 20);
        due("text(0)", x.text(0), 0);
        count(0, 0);
        due("text(1)", x.text(1), -2);
        due("text(0) again", x.text(0), 0);
        good("A(x){x.p=x;if any{}}", 1);
        good("B(){}C(){}", 2);
        count(1, 0);
        count(2, 0);
        entry(0, false);
        mark(1, 0, 0, NONE);
        tape("A(){}B(){}");
        due("text(6)", x.text(6), NONE);
        fault(1, 6);
        due("the TAPE is empty behind a FAULT", x.text(1), -2);
        due("feed", x.feed(0, 0, 0, 0, 0), 20);

        says("the ENTRY is the first one, its parameters may be either.");
        for (char letter = 'A'; letter <= 'H'; letter++) {
            String other = letter == 'A' ? "B(){}" : "A(){}";
            good(letter + "(x,y){}" + other, 2);
            count(3, letter - 'A');
            mark(0, letter - 'A', 0, 3);
            mark(0, letter - 'A', 1, 3);
            run(0, 0, 0);
            run(3, 0, 0);
            x.outer(0, 1);
            x.outer(1, 2);
            x.entry(other.charAt(0) - 'A');
        }
        good("A(x){}", 1);
        x.outer(0, 1);
        good("A(x){}", 1);
        mark(0, 0, 0, 3);
        run(1, 0, 0);
        good("", 0);
        count(3, NONE);
        outer(0, 3, false);

        says("NONE with a FAULT;");
        good("B(x){y=x.p;}A(){}", 2);
        x.outer(0, 1);
        run(0, 9, 2);
        mend(4);
        for (String broken : new String[] {"A(", "A(a,b,c,d,e){}", "A(x,x){}", "A(){B();}", "1", "A(){}A(){}"}) {
            text(broken, NONE);
            due("text(1)", x.text(1), -2);
        }
        count(0, 2);
        count(1, 1);
        count(3, 1);
        mark(0, 1, 0, 1);
        mark(0, 0, 0, NONE);
        use(0, 0, 3);
        run(1, 0, NONE);
        ran(1, 0, 0, 0);
        mended(1, 1);
        x.entry(0);
        text("A(x){x.p=x;x.p=x;", NONE);
        count(3, 0);
        count(1, 1);

        says("-2, and the TAPE stays: there are not so many, n is below 0.");
        due("text(1) of none", x.text(1), -2);
        tape("A(){}B(){}");
        for (int n : FAR) {
            if (n < 0 || n > 20) {
                due("text(" + n + ")", x.text(n), -2);
            }
        }
        due("text(21)", x.text(21), -2);
        due("feed behind -2", x.feed(0x43282920, 0x7b7d2020, 0x20202020, 0x20202020, 0x20202020), 40);
        due("text(41)", x.text(41), -2);
        due("text(40)", x.text(40), 3);
        due("text(40) again", x.text(40), -2);
        count(0, 3);
    }

    private void fault() {
        says("Of the latest text() that was not -2, what 0: its FAULT (0), 1: its place (NONE).");
        fault(0, 0);
        fault(1, NONE);
        due("text(1)", x.text(1), -2);
        fault(0, 0);
        fault(1, NONE);
        bad(" 1", 1, 1);
        due("text(1)", x.text(1), -2);
        due("text(-1)", x.text(-1), -2);
        fault(0, 1);
        fault(1, 1);
        bad("A(a,b,c,d,e){}", 2, 10);
        bad("A(x,x){}", 3, 4);
        bad("A(){B();}", 4, 4);
        x.feed(0, 0, 0, 0, 0);
        x.entry(0);
        x.run(0, 0);
        x.mend();
        fault(0, 4);
        fault(1, 4);
        due("text(0)", x.text(0), 0);
        fault(0, 0);
        fault(1, NONE);
        bad("1", 1, 0);
        good("A(){}", 1);

        says("Of the latest text() that was not -2, what 0: its FAULT (0), 1: its place (NONE). NONE for another what.");
        bad("  (", 1, 2);
        for (int what : FAR) {
            if (what != 0 && what != 1) {
                fault(what, NONE);
            }
        }
        good("A(){}", 1);
        for (int what : FAR) {
            if (what != 0) {
                fault(what, NONE);
            }
        }
    }
}
