/** For each promise of the document: ordinary calls, the edges that it names, and wrong ones. */
public final class PromisesTest extends Sheet {
    public static void main(String[] args) {
        PromisesTest tests = new PromisesTest();
        tests.check();
        int wrong = tests.wrong();
        System.out.println(wrong == 0 ? "all promises hold" : wrong + " answers are not as due");
        System.exit(wrong == 0 ? 0 : 1);
    }

    @Override
    void check() {
        newObject();
        feeds();
        texts();
        faultTokens();
        faultTooMuch();
        faultToldAlready();
        faultCalls();
        entries();
        outers();
        marks();
        marksOfWays();
        uses();
        tests();
        runs();
        runLimits();
        trying();
        prices();
        mends();
        mendsWithFields();
        counts();
    }

    private void newObject() {
        says("1 a new object");
        due("NONE", NothingJudge.NONE, -1);
        due("count(0)", x.count(0), 0);
        due("count(1)", x.count(1), 0);
        due("count(2)", x.count(2), 0);
        due("count(3)", x.count(3), -1);
        due("count(4)", x.count(4), 0);
        due("count(5)", x.count(5), 0);
        due("text(1)", x.text(1), -2);
        due("fault(0)", x.fault(0), 0);
        due("fault(1)", x.fault(1), -1);
        due("mark(2, 0, 1)", x.mark(2, 0, 1), 0);
        due("mark(1, 0, 0)", x.mark(1, 0, 0), -1);
        due("tries(0)", x.tries(0), -1);
        due("mend()", x.mend(), -1);
        due("run(0, 0)", x.run(0, 0), -1);
    }

    private void feeds() {
        says("2 feed");
        for (int k = 1; k <= 60; k++) {
            due("feed " + k, x.feed(0x20202020, 0x20202020, 0x20202020, 0x20202020, 0x20202020), 20 * k);
        }
        due("feed 61", x.feed(0, 0, 0, 0, 0), -1);
        due("text(1200)", x.text(1200), 0);
        due("feed behind text", x.feed(0x41282920, 0x7b7d0a42, 0x28297b7d, -1, -1), 20);
        due("text(12)", x.text(12), 2);
        x.feed(0x80000041, 0, 0, 0, 0);
        due("text of a high byte", x.text(4), -1);
        due("its place", x.fault(1), 0);
    }

    private void texts() {
        says("3 text");
        tape("B(){}A(){}");
        due("text(-1)", x.text(-1), -2);
        due("text(21)", x.text(21), -2);
        due("text(MIN)", x.text(Integer.MIN_VALUE), -2);
        due("text(5)", x.text(5), 1);
        due("ENTRY", x.count(3), 1);
        due("the TAPE is empty", x.text(1), -2);
        good("C(a){a=b;}B(){}A(){}", 3);
        due("ENTRY", x.count(3), 2);
        x.outer(0, 1);
        bad("A(", 1, 2);
        due("the TAPE is empty", x.text(1), -2);
        due("the old text stays", x.count(0), 3);
        due("the old OUTER stays", x.mark(0, 2, 0), 1);
        good("C(a){a=b;}", 1);
        due("OUTER anew", x.mark(0, 2, 0), 3);
        good("", 0);
        due("no ENTRY", x.count(3), -1);
        due("no routine", x.entry(2), false);
        good(" \n", 0);
        tape("A(){ab=c;}");
        due("a word cut by the end", x.text(5), -1);
        due("its place", x.fault(1), 5);
        String longest = "A(){" + times("a=b;", 298) + "}  ";
        due("length", longest.substring(0, 1197).length(), 1197);
        good(longest.substring(0, 1197), 1);
        due("run", x.run(0, 0), 0);
        due("ran(0)", x.ran(0), 298);
    }

    private void faultTokens() {
        says("4 fault 1");
        bad("a(){}", 1, 0);
        bad("I(){}", 1, 0);
        bad("A", 1, 1);
        bad("A  \n", 1, 4);
        bad("A(a", 1, 3);
        bad("A(a,)", 1, 4);
        bad("A(,", 1, 2);
        bad("A(a b){}", 1, 4);
        bad("A(ab){}", 1, 2);
        bad("A()\t{}", 1, 3);
        bad("A(){", 1, 4);
        bad("A(){}}", 1, 5);
        bad("A(){};", 1, 5);
        bad("A(){a=b}", 1, 7);
        bad("A(){a;}", 1, 5);
        bad("A(){a.r=b;}", 1, 6);
        bad("A(){a.pq=b;}", 1, 6);
        bad("A(){a.p.q=b;}", 1, 7);
        bad("A(){a.p;}", 1, 7);
        bad("A(){a=new a;}", 1, 11);
        bad("A(){a=new ab;}", 1, 10);
        bad("A(){a=newa b;}", 1, 6);
        bad("A(){a=b.c;}", 1, 8);
        bad("A(){a=;}", 1, 6);
        bad("A(){a=A(nothing);}", 1, 8);
        bad("A(){return a.;}", 1, 13);
        bad("A(){return return;}", 1, 11);
        bad("A(){if a.p is nothing{}}", 1, 8);
        bad("A(){if a{}}", 1, 8);
        bad("A(){if a is b{}}", 1, 12);
        bad("A(){if a not any{}}", 1, 13);
        bad("A(){if {}}", 1, 7);
        bad("A(){if any a=b;}", 1, 11);
        bad("A(){if nothing{}}", 1, 7);
        bad("A(){else{}}", 1, 4);
        bad("A(){while any{}else{}}", 1, 15);
        bad("A(){if any{}else if any{}}", 1, 17);
        bad("A(){if any{}else{}else{}}", 1, 18);
        bad("A(){iff any{}}", 1, 4);
        bad("A(){B(a;}", 1, 7);
        bad("A(){A()}", 1, 7);
        bad("A(){a=1;}", 1, 6);
        bad("A(){nothing=a;}", 1, 4);
        good("A(){if any{}else{}while any{}return;return any;return new a b;p.q=q.p;p=A();}", 1);
        bad("A(){ifA();}", 1, 6);
        due("fault(2)", x.fault(2), -1);
        due("fault(-1)", x.fault(-1), -1);
        bad("A", 1, 1);
        due("text(9)", x.text(9), -2);
        due("fault(0) behind -2", x.fault(0), 1);
        due("fault(1) behind -2", x.fault(1), 1);
    }

    private void faultTooMuch() {
        says("4 fault 2");
        good("A(a,b,c,d){A(a,b,c,d);}", 1);
        bad("A(a,b,c,d,e){}", 2, 10);
        bad("A(a,b,c,d,a){}", 2, 10);
        bad("A(a,b,c,d,){}", 1, 10);
        bad("A(){A(a,a,a,a,a);}", 2, 14);
        bad("A(){A(a,a,a,a,);}", 1, 14);
        String five = times("if any{", 5);
        good("A(){" + five + times("}", 6), 1);
        bad("A(){" + five + "if any{" + times("}", 7), 2, 45);
        bad("A(){" + five + "while any " + times("}", 7), 1, 49);
        good("A(){" + five + "}else{" + times("}", 6), 1);
        good("A(){" + times("a.p=b;", 40) + "}", 1);
        bad("A(){" + times("a.p=b;", 40) + " a.z", 2, 245);
        bad("A(){" + times("a.p=b;", 40) + "a=b.p;}", 2, 246);
        bad("A(){" + times("a.p=b;", 40) + "a=b;z}", 1, 249);
        good("A(){" + times("a.p=b.q;", 20) + "}B(){a=b;}", 2);
        bad("A(){" + times("a.p=b.q;", 20) + "}B(){b=c.q;}", 2, 171);
        good("A(){" + times("if any{}", 24) + "}", 1);
        bad("A(){" + times("if any{}", 24) + "if any{}}", 2, 199);
        bad("A(){" + times("if any{}", 24) + "while a foo", 2, 202);
        bad("A(){" + times("if any{}", 24) + "while =", 1, 202);
    }

    private void faultToldAlready() {
        says("4 fault 3");
        bad("A(){}B(){}A(", 3, 10);
        bad("A(a,b,a){}", 3, 6);
        bad("A(a,a", 3, 4);
        good("A(a){}B(a){}", 2);
        bad("A(){B();}A(){}", 3, 9);
    }

    private void faultCalls() {
        says("4 fault 4");
        bad("A(){a = B();}", 4, 8);
        bad("A(a){A(a);A();}", 4, 10);
        bad("A(){B(a);C();}B(){}", 4, 4);
        bad("A(){return B(a,a);}B(a){}", 4, 11);
        bad("A(){a.p=B();}C(){}", 4, 8);
        bad("A(){B();}x", 1, 9);
        good("A(){B(a);}B(x){}", 2);
    }

    private void entries() {
        says("5 entry");
        good("A(a){b=a.p;}C(c,d){d.q=c;}", 2);
        x.outer(0, 2);
        due("entry(1)", x.entry(1), false);
        due("entry(-1)", x.entry(-1), false);
        due("entry(8)", x.entry(8), false);
        due("OUTER stays", x.mark(0, 0, 0), 2);
        due("entry(2)", x.entry(2), true);
        due("count(3)", x.count(3), 2);
        due("mark(0, 0, 0)", x.mark(0, 0, 0), 0);
        due("mark(0, 2, 1)", x.mark(0, 2, 1), 3);
        due("run(3, 0)", x.run(3, 0), 0);
        due("run(1, 0)", x.run(1, 0), 2);
        due("entry(0)", x.entry(0), true);
        due("mark(0, 0, 0)", x.mark(0, 0, 0), 3);
        x.outer(0, 1);
        due("entry(0) again", x.entry(0), true);
        due("mark(0, 0, 0)", x.mark(0, 0, 0), 3);
    }

    private void outers() {
        says("6 outer");
        good("A(a,b){c=a.p;c=b.q;}B(x){}", 2);
        due("outer(2, 1)", x.outer(2, 1), false);
        due("outer(-1, 1)", x.outer(-1, 1), false);
        due("outer(0, 0)", x.outer(0, 0), false);
        due("outer(0, 4)", x.outer(0, 4), false);
        due("outer(1, 2)", x.outer(1, 2), true);
        due("use(0, 0)", x.use(0, 0), 2);
        due("use(1, 0)", x.use(1, 0), 1);
        due("outer(0, 1)", x.outer(0, 1), true);
        due("use(0, 0)", x.use(0, 0), 3);
        due("use(1, 0)", x.use(1, 0), 0);
        due("outer(0, 3)", x.outer(0, 3), true);
        due("use(1, 0)", x.use(1, 0), 1);
        due("mark(0, 0, 1)", x.mark(0, 0, 1), 2);
    }

    private void marks() {
        says("7 mark");
        good("A(){a=any;B(a,b);} B(x,y){return x;} C(z){z.p=nothing;}", 3);
        due("mark(0, 1, 0)", x.mark(0, 1, 0), 3);
        due("mark(0, 1, 1)", x.mark(0, 1, 1), 1);
        due("mark(0, 1, 2)", x.mark(0, 1, 2), -1);
        due("mark(0, 1, -1)", x.mark(0, 1, -1), -1);
        due("mark(1, 1, 99)", x.mark(1, 1, 99), 3);
        due("mark(1, 0, 0)", x.mark(1, 0, 0), 1);
        due("mark(0, 2, 0)", x.mark(0, 2, 0), 0);
        due("mark(1, 2, 0)", x.mark(1, 2, 0), 0);
        due("mark(2, 77, 0)", x.mark(2, 77, 0), 2);
        due("mark(2, -5, 1)", x.mark(2, -5, 1), 2);
        due("mark(2, 0, -1)", x.mark(2, 0, -1), -1);
        due("mark(3, 0, 0)", x.mark(3, 0, 0), -1);
        due("mark(-1, 0, 0)", x.mark(-1, 0, 0), -1);
        due("mark(0, 3, 0)", x.mark(0, 3, 0), -1);
        due("mark(1, 8, 0)", x.mark(1, 8, 0), -1);
        good("A(x){if x is nothing{y=new x x;A(y);}}", 1);
        x.outer(0, 1);
        due("the ENTRY's own CALL", x.mark(0, 0, 0), 3);
        due("mark(2, 0, 0)", x.mark(2, 0, 0), 1);
    }

    private void marksOfWays() {
        says("7 mark, ways");
        good("A(){if any{}while any{}}", 1);
        due("a TEST makes no THING", x.mark(2, 0, 0), 0);
        good("A(){return;a=any;}", 1);
        due("any that is not reached", x.mark(2, 0, 0), 0);
        good("A(){a=new b c;a.q=a;}", 1);
        due("p", x.mark(2, 0, 0), 1);
        due("q", x.mark(2, 0, 1), 3);
        good("A(x){x.p=x;}", 1);
        due("the VALUE is worked out first", x.mark(2, 0, 0), 3);
        due("q", x.mark(2, 0, 1), 2);
        good("A(){a=B();return a;}B(){B();}", 2);
        due("behind a CALL that doesn't answer", x.mark(1, 0, 0), 0);
        due("its own", x.mark(1, 1, 0), 0);
        good("A(x){if x is nothing{return x;}return x;}", 1);
        due("both returns", x.mark(1, 0, 0), 3);
        good("A(x){if x not nothing{return x;}else{return any;}}", 1);
        due("returns and no end", x.mark(1, 0, 0), 3);
        good("A(x){if x is nothing{x=new x x;}return x;}", 1);
        due("an end that isn't reached", x.mark(1, 0, 0), 2);
        good("A(x){b=x.p;return x;}", 1);
        due("behind a USE", x.mark(1, 0, 0), 2);
        good("A(){while any{a=new a a;}return a;}", 1);
        due("all ways of a while", x.mark(1, 0, 0), 3);
        due("p of the while", x.mark(2, 0, 0), 3);
    }

    private void uses() {
        says("8 use");
        good("A(x) {\n z = x.p; x.q = y.p; }C(){c.p=c;}", 2);
        due("doubtful", x.use(0, 0), 2);
        due("safe, but behind the VALUE's", x.use(1, 0), 0);
        due("sure", x.use(2, 0), 3);
        due("not reached", x.use(3, 0), 0);
        due("LETTER", x.use(3, 1), 2);
        due("LETTER", x.use(2, 1), 0);
        due("place", x.use(0, 2), 12);
        due("place", x.use(1, 2), 17);
        due("place", x.use(2, 2), 23);
        due("NAME", x.use(2, 3), 24);
        due("NAME", x.use(3, 3), 2);
        due("use(0, 4)", x.use(0, 4), -1);
        due("use(0, -1)", x.use(0, -1), -1);
        due("use(4, 0)", x.use(4, 0), -1);
        due("use(-1, 2)", x.use(-1, 2), -1);
        good("A(x){x.p=x.q;y.p=B();}B(){B();}", 2);
        due("its own VALUE has looked", x.use(0, 0), 1);
        due("the VALUE's", x.use(1, 0), 2);
        due("behind a CALL that doesn't answer", x.use(2, 0), 0);
    }

    private void tests() {
        says("9 test");
        good("A(x){if x is nothing{while x not nothing{}}else{ if x is nothing{}if any{}}}B(){if x is nothing{}}", 2);
        due("open", x.test(0, 0), 0);
        due("never true", x.test(1, 0), 2);
        due("never true", x.test(2, 0), 2);
        due("any", x.test(3, 0), 0);
        due("never reached", x.test(4, 0), 3);
        due("LETTER", x.test(4, 1), 1);
        due("place", x.test(0, 2), 8);
        due("place", x.test(3, 2), 69);
        due("test(0, 3)", x.test(0, 3), -1);
        due("test(0, -1)", x.test(0, -1), -1);
        due("test(5, 0)", x.test(5, 0), -1);
        due("test(-1, 0)", x.test(-1, 0), -1);
        x.outer(0, 1);
        due("always true", x.test(0, 0), 1);
        due("never reached", x.test(3, 0), 3);
        x.entry(1);
        due("a name at first", x.test(4, 0), 1);
        good("A(){while x is nothing{x=any;}while x not nothing{x=new x x;}B();if any{}}B(){}", 2);
        due("while, again", x.test(0, 0), 0);
        due("always true", x.test(1, 0), 1);
        due("behind a while that goes on", x.test(2, 0), 3);
    }

    private void runs() {
        says("10 run, 11 ran");
        due("ran(0) ahead of any", x.ran(0), -1);
        due("ran(1) ahead of any", x.ran(1), -1);
        due("ran(2) ahead of any", x.ran(2), -1);
        due("ran(3) ahead of any", x.ran(3), -1);
        good("A(x,y){if any{return x;}y=any;z=y.p;return z.q;}", 1);
        due("run(0, 1)", x.run(0, 1), 0);
        due("steps", x.ran(0), 2);
        due("things", x.ran(2), 0);
        due("anys", x.ran(3), 1);
        due("run(3, 1)", x.run(3, 1), 1);
        due("things", x.ran(2), 2);
        due("run(0, 2)", x.run(0, 2), 1);
        due("things", x.ran(2), 1);
        due("anys", x.ran(3), 2);
        due("steps", x.ran(0), 4);
        due("run(0, 0)", x.run(0, 0), 2);
        due("failed at", x.ran(1), 0);
        due("run(4, 0)", x.run(4, 0), -1);
        due("run(-1, 0)", x.run(-1, 0), -1);
        due("run(0, -1)", x.run(0, -1), -1);
        due("run(0, 256)", x.run(0, 256), -1);
        due("ran stays", x.ran(1), 0);
        x.outer(0, 1);
        x.outer(1, 2);
        due("run(0, 1)", x.run(0, 1), -1);
        due("run(1, 1)", x.run(1, 1), -1);
        due("run(3, 1)", x.run(3, 1), -1);
        due("run(2, 1)", x.run(2, 1), 0);
        due("ran(4)", x.ran(4), -1);
        due("ran(-1)", x.ran(-1), -1);
        good("", 0);
        due("run(0, 0)", x.run(0, 0), -1);
        due("ran stays with another text", x.ran(2), 1);
        good("A(){while any{}return any;}", 1);
        due("run(0, 255)", x.run(0, 255), 3);
        due("steps", x.ran(0), 400);
        due("anys", x.ran(3), 400);
        due("bit k modulo 8", x.run(0, 127), 1);
        due("anys", x.ran(3), 9);
        due("steps", x.ran(0), 9);
        good("A(){a=new b b;c=new a b;d=c.p;e=c.q;d.q=c;f=a.q;g=f.p;if g is nothing{return;}B();}B(){x=y.p;}", 2);
        due("FAILS never", x.run(0, 0), 2);
        due("at B's", x.ran(1), 5);
        due("steps", x.ran(0), 10);
        due("things", x.ran(2), 2);
        good("A(x){y=any;if any{y=x;}z=y.p;z=z.q;z=z.q;return z.p;}", 1);
        due("both fields of any lead to itself", x.run(0, 1), 1);
        due("things", x.ran(2), 1);
        due("both fields of OUTER lead to itself", x.run(1, 2), 1);
        good("A(){x.p=y.q;}", 1);
        due("the VALUE first", x.run(0, 0), 2);
        due("at", x.ran(1), 1);
        good("A(x){x=B(x);return x;}B(x){y=x;x=nothing;return y;}", 2);
        due("names of a routine are its own", x.run(1, 0), 1);
        good("A(x){return B(x);}B(x){if x not nothing{return;}}", 2);
        due("return and end", x.run(1, 0), 0);
        due("return and end", x.run(0, 0), 0);
    }

    private void runLimits() {
        says("10 run, limits");
        good("A(){B();}B(){C();}C(){D();}D(){E();}E(){F();}F(){G();}G(){H(x);}H(x){if x is nothing{x=any;H(x);}}", 8);
        due("run(0, 0)", x.run(0, 0), 3);
        due("steps", x.ran(0), 25);
        good("A(x){if x is nothing{x=any;A(x);}}", 1);
        due("twelve CALLS in each other", x.run(0, 255), 0);
        due("run(0, 0)", x.run(0, 0), 3);
        due("steps of thirteen", x.ran(0), 39);
        due("anys of thirteen", x.ran(3), 13);
        String hundred = times("a=new a a;", 100);
        good("A(x){while any{" + hundred + "}}", 1);
        due("300 THINGS", x.run(0, 7), 0);
        due("things", x.ran(2), 300);
        due("steps", x.ran(0), 304);
        due("301 THINGS", x.run(1, 7), 3);
        due("things", x.ran(2), 300);
        due("steps", x.ran(0), 303);
        due("failed", x.ran(1), -1);
        good("A(x,y){while any{" + times("a=any;", 99) + "}}", 1);
        due("anys as THINGS", x.run(0, 255), 3);
        due("things", x.ran(2), 300);
        due("anys", x.ran(3), 305);
        String steps = times("a=a;", 199);
        good("A(){B();B();}B(){" + steps + "}", 2);
        due("400 STEPS", x.run(0, 0), 0);
        due("steps", x.ran(0), 400);
        good("A(){B();B();b=b;}B(){" + steps + "}", 2);
        due("401 STEPS", x.run(0, 0), 3);
        due("steps", x.ran(0), 400);
    }

    private void trying() {
        says("12 tries");
        good("A(x,y){if any{if any{}else{a=any;b=a.p;}}x=y.q;z=z.p;}", 1);
        due("tries(0)", x.tries(0), 1);
        due("tries(1)", x.tries(1), 0);
        due("tries(2)", x.tries(2), 512);
        due("tries(3)", x.tries(3), -1);
        due("tries(-1)", x.tries(-1), -1);
        due("ran stays", x.ran(0), -1);
        x.run(3, 0);
        x.tries(0);
        due("ran stays", x.ran(1), 2);
        x.outer(0, 2);
        due("tries(1)", x.tries(1), 256);
        x.outer(1, 2);
        due("tries(1)", x.tries(1), -1);
        due("tries(2)", x.tries(2), 768);
        good("A(){if any{}if any{}if any{}if any{}if any{}if any{}if any{}a=any;b=a.p;a=any;b=a.p;}", 1);
        due("the eighth", x.tries(0), 0);
        due("the ninth is the first again", x.tries(1), 128);
        good("A(){a=any;b=any;if a is nothing{if b not nothing{c=c.p;}}if a not nothing{if a is nothing{c.q=c;}}}", 1);
        due("tries(0)", x.tries(0), 2);
        due("never reached", x.tries(1), -1);
        good("A(){" + times("a.p=b;", 40) + "}", 1);
        due("tries(0)", x.tries(0), 0);
        due("tries(39)", x.tries(39), -1);
        due("tries(40)", x.tries(40), -1);
        good("A(){while any{}while any{}b=b.p;}", 1);
        due("ahead of being SPENT", x.tries(0), 0);
        good("A(){while any{}while x is nothing{}b=b.p;}", 1);
        due("SPENT by all", x.tries(0), -1);
    }

    private void prices() {
        says("13 price");
        due("price(0, 1)", x.price(0, 1), true);
        due("price(3, 99)", x.price(3, 99), true);
        due("price(3, 100)", x.price(3, 100), false);
        due("price(3, 0)", x.price(3, 0), false);
        due("price(3, -1)", x.price(3, -1), false);
        due("price(4, 5)", x.price(4, 5), false);
        due("price(-1, 5)", x.price(-1, 5), false);
        good("A(x){b=x.p;}", 1);
        due("prices stay with a text", x.mend(), 99);
        x.price(3, 7);
        due("a guard", x.mend(), 7);
    }

    private void mends() {
        says("14 mend, 15 mended");
        due("mended(0)", x.mended(0), -1);
        due("mended(1)", x.mended(1), -1);
        due("mended(2)", x.mended(2), -1);
        good("A(){a=B();b=a.p;b=C(a);b=b.q;}B(){return any;}C(c){return c;}", 3);
        due("mend()", x.mend(), 2);
        due("held", x.mended(0), 1);
        due("guards", x.mended(1), 0);
        due("B's answer", x.mended(2), 110);
        due("mended(3)", x.mended(3), -1);
        due("mended(-1)", x.mended(-1), -1);
        due("marks stay", x.mark(1, 1, 0), 3);
        due("uses stay", x.use(0, 0), 2);
        x.price(1, 50);
        due("mended stays", x.mended(2), 110);
        due("mend()", x.mend(), 4);
        due("held", x.mended(0), 0);
        due("guards", x.mended(1), 1);
        due("mended(2)", x.mended(2), -1);
        good("", 0);
        due("mend()", x.mend(), -1);
        due("mended stays", x.mended(1), 1);
        good("A(x,y){B(x,y);B(x,y);}B(x,y){a=x.p;a=y.p;}", 2);
        x.price(0, 4);
        due("of several the least number", x.mend(), 8);
        due("held", x.mended(0), 0);
        x.price(0, 3);
        due("mend()", x.mend(), 6);
        due("both", x.mended(0), 2);
        due("first", x.mended(2), 10);
        due("second", x.mended(3), 11);
        good("A(x){B(x);}B(x){C(x);}C(x){y=x.p;}", 3);
        due("either of two would do", x.mend(), 3);
        due("held", x.mended(0), 1);
        due("the least number", x.mended(2), 10);
        x.price(1, 2);
        good("B(){a=A();a=a.p;return a;}A(){return any;}", 2);
        due("the answer of A", x.mend(), 2);
        due("its name", x.mended(2), 100);
        good("A(x){y=x.p;}", 1);
        due("OUTER is no CANDIDATE", x.mend(), 4);
        x.outer(0, 2);
        due("nothing to mend", x.mend(), 0);
        due("guards", x.mended(1), 0);
        x.outer(0, 1);
        due("a SURE one", x.mend(), 4);
        good("A(){a=any;b=any;B(a,a,a,a);C(a,a,a,a);D(a,a,a);}B(a,b,c,d){}C(a,b,c,d){}D(a,b,c){z=b.p;z=c.p;}", 4);
        x.price(0, 1);
        due("the eleventh is no CANDIDATE", x.mend(), 5);
        due("held", x.mended(0), 1);
        due("the tenth", x.mended(2), 31);
    }

    private void mendsWithFields() {
        says("14 mend, fields");
        good("A(){a=any;a.p=b;c=a.p;d=c.q;d=d.p;d=d.q;}", 1);
        due("uses", x.use(0, 0), 2);
        due("mend()", x.mend(), 9);
        due("held", x.mended(0), 1);
        due("the field p", x.mended(2), 200);
        due("guards", x.mended(1), 1);
        x.price(2, 99);
        due("mend()", x.mend(), 12);
        due("guards", x.mended(1), 3);
        x.price(2, 1);
        good("A(){a=new a b;b=a.q;if b is nothing{c=new b a;d.p=d;}}", 1);
        due("SURE", x.use(1, 0), 3);
        due("HELD until nothing comes", x.mend(), 1);
        due("the field q", x.mended(2), 201);
        good("A(){a=any;B(a);}B(x){if x is nothing{y.p=y;}}", 2);
        x.price(0, 2);
        due("a TEST by what is HELD", x.mend(), 2);
        due("B's parameter", x.mended(2), 10);
        x.price(1, 1);
        good("A(){B();x.p=x;}B(){if any{a=new a a;return a;}B();}", 2);
        due("an answer that is 3", x.mark(1, 1, 0), 3);
        due("a guard is dearer", x.mend(), 4);
    }

    private void counts() {
        says("16 count");
        good("B(x){a=x.p;c=x.q;b.p=b;if any{}while any{}}A(){}H(){}", 3);
        due("routines", x.count(0), 3);
        due("USES", x.count(1), 3);
        due("TESTS", x.count(2), 2);
        due("ENTRY", x.count(3), 1);
        due("DOUBTFUL", x.count(4), 1);
        due("SURE", x.count(5), 1);
        due("count(6)", x.count(6), -1);
        due("count(-1)", x.count(-1), -1);
        x.entry(7);
        due("DOUBTFUL", x.count(4), 0);
        due("SURE", x.count(5), 0);
        due("ENTRY", x.count(3), 7);
    }
}
