/** Part 2 of the document's terms, RUNS, and promises 5, 6 and 10 to 12. */
final class RunSentences extends Sheet {
    @Override
    void check() {
        things();
        uses();
        entries();
        choices();
        steps();
        spent();
        entry();
        outer();
        run();
        ran();
        tries();
    }

    private void things() {
        says("A THING has two fields.");
        runOf("A(){a=new z z;a.p=a;return a.p;}", 0, 0, 1);
        runOf("A(){a=new z z;a.p=a;return a.q;}", 0, 0, 0);
        runOf("A(){a=new z z;a.q=a;return a.q;}", 0, 0, 1);
        runOf("A(){a=new z z;a.q=a;return a.p;}", 0, 0, 0);
        runOf("A(){a=new z z;a.p=a;a.p=z;return a.p;}", 0, 0, 0);
        runOf("A(){a=new z z;b=new z z;a.p=b;return b.p;}", 0, 0, 0);
        runOf("A(){a=new z z;b=a;b.q=a;return a.q;}", 0, 0, 1);
        runOf("A(){a=new z z;B(a);return a.q;}B(x){x.q=x;x=z;}", 0, 0, 1);

        says("All NAMES of a routine lead to nothing at first, but its parameters.");
        for (char name = 'a'; name <= 'z'; name++) {
            runOf("A(){return " + name + ";}", 0, 0, 0);
            runOf("A(" + name + "){return " + name + ";}", 1, 0, 1);
            char kept = name == 'x' ? 'y' : 'x';
            String own = "B(){" + kept + "=" + name + ";" + name + "=any;return " + kept + ";}";
            runOf("A(){" + name + "=any;B();return B();}" + own, 0, 255, 0);
            runOf("A(a){return B(a);}B(" + name + "){return " + name + ";}", 1, 0, 1);
            runOf("A(" + name + "){B();return " + name + ";}B(){" + kept + "=any;}", 1, 0, 1);
            runOf("A(" + kept + "){" + name + "=nothing;return " + kept + ";}", 1, 0, 1);
        }
        runOf("A(a,b,c,d){return B(d,c,b,a);}B(w,x,y,z){return x;}", 4, 0, 1);
        runOf("A(a,b,c,d){return B(d,c,b,a);}B(w,x,y,z){return x;}", 11, 0, 0);
        runOf("A(a,b){return B(b,a);}B(a,b){return a;}", 2, 0, 1);
        runOf("A(a,b){return B(b,a);}B(a,b){return a;}", 1, 0, 0);
        runOf("A(x){B();return x;}B(){x=nothing;}", 1, 0, 1);
        runOf("A(x){B(x);return x;}B(x){x=nothing;}", 1, 0, 1);
        runOf("A(){B();return x;}B(){x=any;}", 0, 255, 0);
        runOf("A(x){if x not nothing{y=any;A(z);return y;}y=any;}", 1, 1, 1);
        runOf("A(x){while any{z=y;y=x;}return z;}", 1, 1, 0);
        runOf("A(x){while any{z=y;y=x;}return z;}", 1, 3, 1);

        says("new a b is a new THING whose p is what a leads to, q what b.");
        runOf("A(x){a=new x z;return a.p;}", 1, 0, 1);
        runOf("A(x){a=new x z;return a.q;}", 1, 0, 0);
        runOf("A(x){a=new z x;return a.p;}", 1, 0, 0);
        runOf("A(x){a=new z x;return a.q;}", 1, 0, 1);
        runOf("A(x){a=new x x;return a.q;}", 0, 0, 0);
        runOf("A(x){a=new x x;x=nothing;return a.p;}", 1, 0, 1);
        runOf("A(){a=new a a;return a.p;}", 0, 0, 0);
        runOf("A(){a=new a a;a=new a z;return a.p;}", 0, 0, 1);
        runOf("A(){a=new z z;b=new a z;a.q=b;c=b.p;return c.q;}", 0, 0, 1);
        runOf("A(){a=new z z;b=new z z;a.p=a;return b.p;}", 0, 0, 0);
        runOf("A(){return new z z;}", 0, 0, 1);
        ran(1, NONE, 1, 0);

        says("any is nothing or a new THING both of whose fields lead to itself.");
        runOf("A(){return any;}", 0, 0, 0);
        ran(1, NONE, 0, 1);
        runOf("A(){return any;}", 0, 1, 1);
        ran(1, NONE, 1, 1);
        runOf("A(){a=any;b=a.p;b.q=z;return a.q;}", 0, 1, 0);
        runOf("A(){a=any;b=a.q;b.p=z;return a.p;}", 0, 1, 0);
        runOf("A(){a=any;b=a.q;b.q=z;return a.p;}", 0, 1, 1);
        runOf("A(){a=any;b=a.p;c=b.p;d=c.q;e=d.q;return e.p;}", 0, 1, 1);
        runOf("A(){a=any;b=any;a.p=z;return b.p;}", 0, 3, 1);
        runOf("A(){a=new z z;a.p=any;b=a.p;return b.q;}", 0, 1, 1);
        runOf("A(){while any{a=any;b=new a b;}c=b.q;d=b.p;d.p=z;e=c.p;return e.p;}", 0, 15, 1);
    }

    private void uses() {
        says("A USE of a NAME that leads to nothing FAILS.");
        runOf("A(){a=b.p;}", 0, 0, 2);
        ran(1, 0, 0, 0);
        runOf("A(){b.q=a;}", 0, 0, 2);
        runOf("A(){return b.q;}", 0, 0, 2);
        runOf("A(x){y=x.p;z=y.q;z.p=w;y=y.p;return y.q;}", 1, 0, 2);
        ran(1, 4);
        runOf("A(){B();a=any;}B(){c=c.q;}", 0, 0, 2);
        ran(2, 0, 0, 0);
        runOf("A(x){x=nothing;a.p=x;a.q=x;}", 1, 0, 2);
        ran(2, 0, 1, 0);
        runOf("A(){b=a;c=new a b;B(a);if a is nothing{}while a not nothing{}return a;}B(x){return x;}", 0, 0, 0);
        runOf("A(){a=b.p;}", 0, 255, 2);

        says("In NAME.FIELD = VALUE the VALUE is worked out first.");
        runOf("A(){x.p=y.q;}", 0, 0, 2);
        ran(1, 1, 0, 0);
        runOf("A(x){x.p=y.q;}", 1, 0, 2);
        ran(1, 1);
        runOf("A(y){x.p=y.q;}", 1, 0, 2);
        ran(1, 0);
        runOf("A(){x.p=any;}", 0, 1, 2);
        ran(1, 0, 1, 1);
        runOf("A(){x.p=new x x;}", 0, 0, 2);
        ran(1, 0, 1, 0);
        runOf("A(){x.p=B();}B(){y=any;z.p=z;}", 0, 1, 2);
        ran(3, 1, 1, 1);
        runOf("A(){x.p=B();}B(){while x is nothing{}}", 0, 0, 3);
        runOf("A(x){x.p=B(x);return x.p;}B(x){x.p=y;x.q=y;return x;}", 1, 0, 1);
        runOf("A(x){x.p=B(x);return x.q;}B(x){x.p=y;x.q=y;return x;}", 1, 0, 0);
        runOf("A(x){x.p=nothing;x.q=x.p;return x.q;}", 1, 0, 0);

        says("A routine that comes to its end, or to return; answers nothing.");
        runOf("A(){}", 0, 0, 0);
        ran(0, NONE, 0, 0);
        runOf("A(x){x=x;}", 1, 0, 0);
        runOf("A(x){return;}", 1, 0, 0);
        runOf("A(x){x=B(x);return x;}B(x){}", 1, 0, 0);
        runOf("A(x){x=B(x);return x;}B(x){x=x;}", 1, 0, 0);
        runOf("A(x){x=B(x);return x;}B(x){return;}", 1, 0, 0);
        runOf("A(x){return B(x);}B(x){if x not nothing{return;}return x;}", 1, 0, 0);
        runOf("A(x){B(x);}B(x){return x;}", 1, 0, 0);
        runOf("A(x){while any{if any{return;}}return x;}", 1, 3, 0);
        ran(3, NONE, 1, 2);
        runOf("A(x){while any{if any{return;}}return x;}", 1, 1, 1);
        runOf("A(x){x.p=B();return x.p;}B(){}", 1, 0, 0);
        runOf("A(x){return x;x=y.p;}", 1, 0, 1);
        ran(1, NONE, 1, 0);
    }

    private void entries() {
        says("The ENTRY is a routine (the text's first one, till another is told);");
        String text = "D(){return new x x;}A(){}C(){x.p=x;}";
        good(text, 3);
        count(3, 3);
        run(0, 0, 1);
        entry(0, true);
        run(0, 0, 0);
        entry(2, true);
        run(0, 0, 2);
        entry(3, true);
        run(0, 0, 1);
        entry(2, true);
        good(text, 3);
        count(3, 3);
        run(0, 0, 1);

        says("its parameters are OUTER: each may lead to nothing, to a THING (as any), or either, as told (either at "
            + "first).");
        good("A(x,y){if x is nothing{return y;}z=x.p;w=z.q;w.p=n;w=x.q;if w is nothing{n=n.p;}return x.p;}", 1);
        run(0, 0, 0);
        run(2, 0, 1);
        run(1, 0, 0);
        run(3, 0, 0);
        ran(2, 2);
        ran(3, 0);
        good("A(x,y){x.p=z;x.q=z;a=y.p;return a.q;}", 1);
        run(3, 0, 1);
        x.outer(0, 2);
        run(2, 0, NONE);
        run(1, 0, 2);
        x.outer(1, 1);
        run(3, 0, NONE);
        run(1, 0, 2);
        x.outer(0, 3);
        run(0, 0, 2);
        ran(1, 0);

        says("A run has bits for these (bit k: parameter k is a THING) and CHOICES 0 .. 255:");
        for (int k = 0; k < 4; k++) {
            good("A(a,b,c,d){x=any;if x not nothing{n=n.p;}return " + "abcd".charAt(k) + ";}", 1);
            for (int bits = 0; bits < 16; bits++) {
                run(bits, 0, bits >> k & 1);
                ran(2, Integer.bitCount(bits));
                run(bits, 254, bits >> k & 1);
                run(bits, 255, 2);
            }
            run(16, 0, NONE);
        }
    }

    private void choices() {
        says("the k-th any of the run (from 0 on; of a VALUE 1 is a THING, of a TEST 1 is true) takes bit k modulo 8.");
        String anys = "";
        for (int k = 0; k < 18; k++) {
            anys += (char) ('a' + k) + "=any;";
        }
        for (int k = 0; k < 18; k++) {
            good("A(){" + anys + "return " + (char) ('a' + k) + ";}", 1);
            for (int choices = 0; choices < 256; choices += k < 9 ? 1 : 7) {
                run(0, choices, choices >> k % 8 & 1);
            }
            ran(3, 18);
        }
        for (int k = 0; k < 10; k++) {
            good("A(x){" + times("if any{}", k) + "if any{return x;}else{return;}}", 1);
            for (int choices = 0; choices < 256; choices++) {
                run(1, choices, choices >> k % 8 & 1);
                ran(3, k + 1);
            }
        }
        good("A(){while any{a=new a a;}return a;}", 1);
        run(0, 254, 0);
        run(0, 1, 1);
        ran(3, 2);
        run(0, 127, 1);
        ran(16, NONE, 7, 8);
        good("A(){a=B();if any{B();}a=B();return a;}B(){if any{return any;}}", 2);
        run(0, 0, 0);
        ran(3, 3);
        run(0, 4 + 8, 1);
        ran(3, 4);
        run(0, 4, 0);
        ran(3, 4);
        run(0, 2 + 8 + 16, 1);
        ran(3, 5);
        run(0, 2 + 8, 0);
        ran(3, 5);
    }

    private void steps() {
        says("STEPS: each STATEMENT as it begins, each TEST of a while again.");
        runOf("A(){}", 0, 0, 0);
        ran(0, 0);
        runOf("A(){a=b;}", 0, 0, 0);
        ran(0, 1);
        runOf("A(a){a.p=a;}", 1, 0, 0);
        ran(0, 1);
        runOf("A(){B();}B(){}", 0, 0, 0);
        ran(0, 1);
        runOf("A(){a=B();return B();}B(){a=a;return;}", 0, 0, 0);
        ran(0, 6);
        runOf("A(){return;}", 0, 0, 0);
        ran(0, 1);
        runOf("A(){return;a=b;a=b;}", 0, 0, 0);
        ran(0, 1);
        runOf("A(){a=b.p;a=b;}", 0, 0, 2);
        ran(0, 1);
        for (int choices = 0; choices < 2; choices++) {
            runOf("A(){if any{a=b;a=b;}else{}}", 0, choices, 0);
            ran(0, choices == 0 ? 1 : 3);
            runOf("A(){if any{}else{a=b;}a=b;}", 0, choices, 0);
            ran(0, choices == 0 ? 3 : 2);
        }
        for (int rounds = 0; rounds < 8; rounds++) {
            runOf("A(){while any{}}", 0, (1 << rounds) - 1, 0);
            ran(0, 1 + rounds);
            runOf("A(){while any{a=b;B();}a=b;}B(){}", 0, (1 << rounds) - 1, 0);
            ran(0, 1 + 3 * rounds + 1);
        }
        runOf("A(x){while x not nothing{x=nothing;}}", 1, 0, 0);
        ran(0, 3);
        runOf("A(x){while x not nothing{return;}}", 1, 0, 0);
        ran(0, 2);
        runOf("A(x){while x not nothing{while x not nothing{x=nothing;}}}", 1, 0, 0);
        ran(0, 5);
    }

    private void spent() {
        says("With a 401st STEP, a CALL within 12 others, or a 301st THING (those of OUTER parameters, too) it is SPENT.");
        spentBySteps();
        spentByCalls();
        spentByThings();
    }

    private void spentBySteps() {
        String steps = times("a=a;", 199);
        runOf("A(x){B();B();}B(){" + steps + "}", 0, 0, 0);
        ran(400, NONE, 0, 0);
        runOf("A(x){B();B();x=x;}B(){" + steps + "}", 0, 0, 3);
        ran(400, NONE, 0, 0);
        runOf("A(x){B();B();x=y.p;}B(){" + steps + "}", 0, 0, 3);
        ran(400, NONE, 0, 0);
        runOf("A(x){B();B();x=any;}B(){" + steps + "}", 1, 1, 3);
        ran(400, NONE, 1, 0);
        runOf("A(x){B();B();return x;}B(){" + steps + "}", 1, 0, 3);
        runOf("A(x){B();B();if x is nothing{}}B(){" + steps + "}", 1, 0, 3);
        runOf("A(x){B();B();B();}B(){" + steps + "}", 1, 0, 3);
        runOf("A(x){B();return B();}B(){" + steps + "}", 1, 0, 0);
        runOf("A(x){B();x=B();}B(){" + steps + "}", 1, 0, 0);
        runOf("A(x){B();x.p=B();}B(){" + steps + "}", 0, 0, 2);
        ran(400, 0, 0, 0);
        runOf("A(x){B();B();if any{}}B(){" + steps.substring(4) + "}", 0, 0, 0);
        ran(399, NONE, 0, 1);
        runOf("A(x){B();B();if any{x=x;}}B(){" + steps.substring(4) + "}", 0, 1, 0);
        ran(400, NONE, 0, 1);
        runOf("A(x){B();B();if any{x=x;x=x;}}B(){" + steps.substring(4) + "}", 0, 1, 3);
        ran(400, NONE, 0, 1);
        runOf("A(){while any{}}", 0, 255, 3);
        ran(400, NONE, 0, 400);
        runOf("A(){while x is nothing{a=a;}}", 0, 0, 3);
        ran(400, NONE, 0, 0);
        // A TEST of a while again may be the 400th STEP, and not the 401st.
        String third = "B();B();B();while any{a=a;}}B(){" + times("a=a;", 127) + "}";
        runOf("A(){" + third, 0, 127, 0);
        ran(3 * 128 + 15, NONE, 0, 8);
        runOf("A(){b=b;" + third, 0, 127, 0);
        ran(400, NONE, 0, 8);
        runOf("A(){b=b;b=b;" + third, 0, 127, 3);
        ran(400, NONE, 0, 7);
    }

    private void spentByCalls() {
        String eight = "A(x){B(x);}B(x){C(x);}C(x){D(x);}D(x){E(x);}E(x){F(x);}F(x){G(x);}G(x){H(x);}";
        runOf(eight + "H(x){}", 0, 0, 0);
        ran(0, 7);
        runOf("A(x){if x is nothing{x=any;A(x);}}", 0, 1 << 3, 0);
        ran(3 * 4 + 1, NONE, 1, 4);
        for (int deep = 0; deep < 16; deep++) {
            // Each CALL passes on one THING fewer of a chain: deep CALLS stand within one another.
            String chain = "A(){" + times("a=new a a;", deep) + "B(a);}B(x){if x not nothing{y=x.p;B(y);}}";
            runOf(chain, 0, 0, deep < 12 ? 0 : 3);
            ran(0, deep < 12 ? deep + 1 + 3 * deep + 1 : deep + 1 + 3 * 12);
        }
        String own = "A(x){if x not nothing{x=x.p;x=A(x);}return x;}";
        runOf("B(){" + times("a=new a a;", 11) + "return A(a);}" + own, 0, 0, 0);
        runOf("B(){" + times("a=new a a;", 12) + "return A(a);}" + own, 0, 0, 3);
        ran(12 + 1 + 12 * 3, NONE, 12, 0);
        runOf("A(){A();}", 0, 0, 3);
        ran(13, NONE, 0, 0);
        runOf("A(){a=A();}", 0, 0, 3);
        ran(13, NONE, 0, 0);
        runOf("A(){a.p=A();}", 0, 0, 3);
        ran(13, NONE, 0, 0);
        runOf("A(){return A();}", 0, 0, 3);
        ran(13, NONE, 0, 0);
        // CALLS that have come back don't count.
        runOf("A(){" + times("B();", 20) + "}B(){" + times("C();", 3) + "}C(){}", 0, 0, 0);
        ran(80, NONE, 0, 0);
    }

    private void spentByThings() {
        String hundred = "{" + times("a=new a a;", 100) + "}";
        runOf("A(x,y){while any" + hundred + "}", 0, 7, 0);
        ran(304, NONE, 300, 4);
        runOf("A(x,y){while any" + hundred + "b=new a a;}", 0, 7, 3);
        ran(305, NONE, 300, 4);
        runOf("A(x,y){while any" + hundred + "b=any;}", 0, 7, 0);
        ran(305, NONE, 300, 5);
        runOf("A(x,y){while any" + hundred + "b=any;}", 0, 7 + 16, 3);
        ran(305, NONE, 300, 5);
        runOf("A(x,y){while any" + hundred + "}", 1, 7, 3);
        ran(303, NONE, 300, 3);
        runOf("A(x,y){while any" + hundred + "}", 3, 7, 3);
        ran(302, NONE, 300, 3);
        String fewer = "{" + times("a=new a a;", 99) + "}";
        runOf("A(w,x,y,z){while any" + fewer + "}", 7, 7, 0);
        ran(301, NONE, 300, 4);
        runOf("A(w,x,y,z){while any" + fewer + "}", 15, 7, 3);
        ran(300, NONE, 300, 3);
        runOf("A(x,y){while any" + hundred + "x.p=new a a;}", 0, 7, 3);
        ran(1, NONE);
        runOf("A(x,y){while any" + hundred + "return new a a;}", 0, 7, 3);
        runOf("A(x,y){while any" + hundred + "return a;}", 0, 7, 1);
        // The last of 300 has its own fields as well.
        String last = "A(){while any" + hundred + "b=a.p;c=b.q;d=c.p;";
        runOf(last + "return d.q;}", 0, 7, 1);
        runOf(last + "a.p=z;a.q=d;return a.p;}", 0, 7, 0);
        runOf(last + "a.p=z;a.q=d;return a.q;}", 0, 7, 1);
        runOf(last + "a.p=z;a.q=d;b=a.q;return b.p;}", 0, 7, 1);
        runOf(last + "a.q=z;b.p=z;return b.q;}", 0, 7, 1);
        runOf(last + "b.q=z;return a.q;}", 0, 7, 1);
    }

    private void entry() {
        says("The ENTRY is the routine of a LETTER (0 .. 7), its parameters may be either: true;");
        good("A(a){return a;}B(a){return a;}C(a){return a;}D(a){return a;}E(a){return a;}F(a){return a;}"
            + "G(a){return a;}H(a){return a;}", 8);
        for (int letter = 7; letter >= 0; letter--) {
            entry(letter, true);
            count(3, letter);
            for (int other = 0; other < 8; other++) {
                mark(0, other, 0, other == letter ? 3 : 0);
            }
            run(0, 0, 0);
            run(1, 0, 1);
            x.outer(0, 1);
            run(1, 0, NONE);
        }
        entry(0, true);
        x.outer(0, 2);
        mark(0, 0, 0, 2);
        entry(0, true);
        mark(0, 0, 0, 3);
        run(0, 0, 0);

        says("The ENTRY is the routine of a LETTER (0 .. 7), its parameters may be either: true; false: none such.");
        for (int letter : FAR) {
            entry(letter, false);
        }
        good("C(x){y=x.p;}F(){}", 2);
        x.outer(0, 2);
        for (int letter : FAR) {
            if (letter != 2 && letter != 5) {
                entry(letter, false);
                count(3, 2);
                mark(0, 2, 0, 2);
            }
        }
        run(0, 0, NONE);
        good("", 0);
        entry(2, false);
        count(3, NONE);
        bad("A(", 1, 2);
        entry(0, false);
    }

    private void outer() {
        says("An OUTER parameter of the ENTRY is 1 nothing, 2 a THING, 3 either: true;");
        good("A(a,b,c,d){a=d.p;}", 1);
        for (int parameter = 0; parameter < 4; parameter++) {
            for (int fact = 1; fact <= 3; fact++) {
                outer(parameter, fact, true);
                mark(0, 0, parameter, fact);
                for (int other = parameter + 1; other < 4; other++) {
                    mark(0, 0, other, 3);
                }
                run(0, 0, fact == 2 ? NONE : 2);
                run(1 << parameter, 0, fact == 1 ? NONE : parameter == 3 ? 0 : 2);
            }
        }
        outer(3, 2, true);
        use(0, 0, 1);
        outer(3, 1, true);
        use(0, 0, 3);
        tries(0, 0);
        outer(3, 3, true);
        use(0, 0, 2);

        says("An OUTER parameter of the ENTRY is 1 nothing, 2 a THING, 3 either: true; false for others.");
        for (int far : FAR) {
            outer(far, 1, false);
        }
        good("A(a,b){}B(c,d,e){}", 2);
        x.outer(1, 2);
        for (int far : FAR) {
            if (far != 0 && far != 1) {
                outer(far, 1, false);
                outer(far, 3, false);
            }
            if (far < 1 || far > 3) {
                outer(0, far, false);
                outer(1, far, false);
            }
            mark(0, 0, 0, 3);
            mark(0, 0, 1, 2);
        }
        entry(1, true);
        outer(2, 1, true);
        outer(3, 1, false);
        entry(0, true);
        outer(2, 1, false);
        good("A(){}B(c){}", 2);
        outer(0, 1, false);
        good("", 0);
        outer(0, 1, false);
    }

    private void run() {
        says("A run by bits of OUTER parameters and CHOICES: 0 it answers nothing, 1 a THING, 2 it FAILS, 3 it is SPENT;");
        good("A(x,y){if x is nothing{return any;}while y is nothing{}return z.p;}", 1);
        run(0, 0, 0);
        run(2, 1, 1);
        run(3, 0, 2);
        run(1, 255, 3);
        run(0, 0, 0);
        run(2, 255, 1);

        says("NONE: no routines, no such CHOICES, bits of parameters that there are not, or such as aren't told to be "
            + "possible.");
        run(0, 0, NONE);
        good("A(){}", 1);
        for (int far : FAR) {
            run(0, far, far >= 0 && far <= 255 ? 0 : NONE);
            run(far, 0, far == 0 ? 0 : NONE);
        }
        String[] parameters = {"", "a", "a,b", "a,b,c", "a,b,c,d"};
        for (int n = 0; n <= 4; n++) {
            good("A(" + parameters[n] + "){}", 1);
            for (int far : FAR) {
                run(far, 255, far >= 0 && far < 1 << n ? 0 : NONE);
            }
        }
        for (int told = 0; told < 81; told++) {
            int[] facts = {told % 3 + 1, told / 3 % 3 + 1, told / 9 % 3 + 1, told / 27 % 3 + 1};
            for (int k = 0; k < 4; k++) {
                outer(k, facts[k], true);
            }
            for (int bits = 0; bits < 16; bits++) {
                boolean possible = true;
                for (int k = 0; k < 4; k++) {
                    possible = possible && (facts[k] >> (bits >> k & 1) & 1) == 1;
                }
                run(bits, 0, possible ? 0 : NONE);
            }
        }
        good("", 0);
        run(0, 0, NONE);
    }

    private void ran() {
        says("Of the latest run() that was not NONE, what 0: STEPS (400 if SPENT by them), 1: the USE at which it FAILED "
            + "(NONE), 2: THINGS made, 3: anys met.");
        good("A(x){while x not nothing{}y=any;z=new y y;if any{z=x.p;}w=z.p;w=w.q;}", 1);
        run(1, 0, 3);
        ran(400, NONE, 1, 0);
        run(0, 2, 2);
        ran(5, 0, 1, 2);
        run(0, 0, 2);
        ran(6, 2, 1, 2);
        run(0, 1, 0);
        ran(6, NONE, 2, 2);
        run(2, 0, NONE);
        run(0, 256, NONE);
        run(-1, 0, NONE);
        ran(6, NONE, 2, 2);
        x.outer(0, 2);
        run(0, 0, NONE);
        x.tries(0);
        x.tries(1);
        x.mend();
        x.entry(0);
        ran(6, NONE, 2, 2);
        bad("A(", 1, 2);
        ran(6, NONE, 2, 2);
        good("B(){}", 1);
        ran(6, NONE, 2, 2);
        good("", 0);
        run(0, 0, NONE);
        ran(6, NONE, 2, 2);

        says("NONE ahead of any, and for another what.");
        ran(NONE, NONE, NONE, NONE);
        run(0, 0, NONE);
        ran(NONE, NONE, NONE, NONE);
        good("A(){a.p=any;}", 1);
        tries(0, 0);
        run(0, 256, NONE);
        ran(NONE, NONE, NONE, NONE);
        run(0, 1, 2);
        ran(1, 0, 1, 1);
        for (int what : FAR) {
            if (what < 0 || what > 3) {
                ran(what, NONE);
            }
        }
    }

    private void tries() {
        says("The first run, by bits, then CHOICES, that FAILS at a USE: 256 times the bits and CHOICES;");
        good("A(x,y){z=any;if any{w=z.p;}if y not nothing{w=x.q;w=n.p;}}", 1);
        tries(0, 2);
        tries(1, 512);
        tries(2, 256 * 3);
        x.outer(1, 1);
        tries(0, 2);
        tries(1, NONE);
        x.outer(1, 2);
        tries(0, 512 + 2);
        tries(1, 512);
        x.outer(0, 2);
        tries(0, 768 + 2);
        tries(1, NONE);
        tries(2, 768);
        x.outer(0, 3);
        tries(2, 768);
        good("A(a,b,c,d){if a not nothing{if b not nothing{if c not nothing{if d not nothing{"
            + "if any{}else{a=b;}" + times("z=any;if z is nothing{return;}", 7) + "z=n.p;}}}}}", 1);
        tries(0, 15 * 256 + 254);
        good("A(){" + times("if any{}", 8) + "a=any;b=any;if a not nothing{if b not nothing{c=c.p;}else{c=d.q;}}}", 1);
        tries(0, 3);
        tries(1, 1);
        good("A(){" + times("z=any;if z is nothing{return;}", 8) + "z=n.p;}", 1);
        tries(0, 255);
        for (int k = 0; k < 100; k++) {
            good("A(){" + times("a=any;", k) + "if any{b=n.p;}}", 1);
            tries(0, 1 << k % 8);
        }
        good("A(){while any{}b=n.p;if any{c=n.p;}}", 1);
        tries(0, 0);
        tries(1, NONE);
        good("A(){a=any;b=any;c=any;if c not nothing{if a not nothing{x=n.p;}else{if b is nothing{x=n.q;}x=n.p;}}x=n.p;}", 1);
        tries(0, 4 + 1);
        tries(1, 4);
        tries(2, 4 + 2);
        tries(3, 0);

        says("NONE: none does, or no such USE.");
        tries(0, NONE);
        good("A(x){if x not nothing{y=x.p;}y=x.q;while n is nothing{}y=n.p;}B(){z=z.p;}", 2);
        tries(0, NONE);
        tries(1, 0);
        tries(2, NONE);
        tries(3, NONE);
        x.outer(0, 2);
        tries(1, NONE);
        for (int use : FAR) {
            if (use < 0 || use > 3) {
                tries(use, NONE);
            }
        }
        x.entry(1);
        tries(1, NONE);
        tries(3, 0);
        good("A(){" + times("a.p=a;", 40) + "}", 1);
        tries(39, NONE);
        tries(40, NONE);
        tries(41, NONE);
        good("A(){" + times("a=any;if a is nothing{return;}", 8) + "a=any;if a is nothing{b=b.p;}}", 1);
        tries(0, NONE);
        good("", 0);
        tries(0, NONE);

        says("(ran() stays.)");
        good("A(x){y=x.p;z.p=z;}", 1);
        tries(0, 0);
        ran(NONE, NONE, NONE, NONE);
        run(1, 0, 2);
        ran(2, 1, 1, 0);
        tries(0, 0);
        ran(2, 1, 1, 0);
        x.outer(0, 2);
        tries(1, 256);
        tries(2, NONE);
        ran(2, 1, 1, 0);
    }
}
