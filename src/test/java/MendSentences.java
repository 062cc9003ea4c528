/** Part 4 of the document's terms, MENDS, and promises 13 to 15. */
final class MendSentences extends Sheet {
    @Override
    void check() {
        held();
        prices();
        candidates();
        mends();
        price();
        mend();
        mended();
        calls();
    }

    private void held() {
        says("A MARK of 3 may be HELD: 1 is taken out of whatever comes to it (all else is worked out anew by that; it may "
            + "come to be 0).");
        // A parameter, an answer, a field.
        good("A(x){B(x);}B(y){a=y.p;}", 2);
        mendOf(3, 0, 10);
        good("A(){a=B();b=a.p;}B(){return any;}", 2);
        mendOf(2, 0, 110);
        good("A(){a=new n n;if any{a.p=a;}b=a.p;b=b.p;b=b.p;}", 1);
        mendOf(5, 0, 200);
        good("A(){a=new n n;if any{a.q=a;}b=a.q;b=b.q;b=b.q;}", 1);
        mendOf(5, 0, 201);
        // A MARK of 1 can't be HELD, though that would be cheaper.
        good("A(){B(n);}B(y){a=y.p;}", 2);
        mendOf(4, 1);
        good("A(){a=B();b=a.p;}B(){}", 2);
        mendOf(4, 1);
        // All else by that: the answer through the parameter, the parameter through the answer, a field.
        good("A(x){y=B(x);a=y.p;}B(z){return z;}", 2);
        x.price(1, 9);
        mendOf(3, 0, 10);
        good("A(){y=B();C(y);}B(){return any;}C(z){a=z.p;}", 3);
        x.price(1, 2);
        mendOf(2, 0, 110);
        good("A(x){t=new n n;t=new t t;B(x,t);}B(y,t){t.p=y;a=t.q;b=t.p;if y is nothing{n.p=n;n.p=n;}}", 2);
        x.outer(0, 3);
        mendOf(3, 0, 10);
        // 2 stays: what is HELD still brings a THING.
        good("A(x){B(x);}B(y){if y not nothing{n.p=n;}}", 2);
        mendOf(4, 1);
        // The caller's own NAME isn't changed.
        good("A(){x=any;B(x);a=x.p;}B(y){a=y.p;b=y.q;}", 2);
        mendOf(4 + 3, 1, 10);
        heldToNone();
    }

    private void heldToNone() {
        good("A(){B(n);}B(x){if x is nothing{y=new x x;B(y);}n.p=n;}", 2);
        mark(0, 1, 0, 3);
        mendOf(3, 0, 10);
        good("A(){t=new n n;B(n,t);}B(x,y){if x is nothing{z=new x x;B(z,y);}n.p=n;}", 2);
        mendOf(3, 0, 10);
        good("A(){t=new n n;B(n,t);n.p=n;}B(x,y){if any{return y;}if x is nothing{z=new x x;B(z,y);}return y;}", 2);
        mendOf(3, 0, 10);
        good("A(){t=new n n;B(t,n);}B(x,y){if y is nothing{z=new x x;B(x,z);}n.p=n;}", 2);
        mendOf(3, 0, 11);
        good("A(){a=B();n.p=n;}B(){if any{return;}a=B();if a is nothing{return new n n;}}", 2);
        mark(1, 1, 0, 3);
        mendOf(2, 0, 110);
        good("A(){B();n.p=n;}B(){if any{return;}a=B();if a is nothing{return new n n;}}", 2);
        mendOf(2, 0, 110);
        good("A(){a=new n n;b=a.q;if b is nothing{a.q=a;n.p=n;}}", 1);
        fields(1, 3);
        x.price(2, 3);
        mendOf(3, 0, 201);
        good("A(){a=new n n;return B(a);}B(x){b=x.p;if b is nothing{x.p=x;}n.q=n;}", 2);
        fields(3, 1);
        mendOf(3, 0, 200);
        // A MARK of 0 that comes to no NAME ends no way: n.p is reached behind a.p = a.q, and not behind b = a.q.
        String lone = "c=a.q;if c is nothing{a.q=a;}";
        x.price(2, 1);
        good("A(){a=new n n;if any{" + lone + "}else{b=a.q;if b is nothing{n.p=n;}}}", 1);
        fields(1, 3);
        mendOf(1, 0, 201);
        good("A(){a=new n n;if any{" + lone + "}else{a.p=a.q;n.p=n;}}", 1);
        fields(3, 3);
        mendOf(4, 1);
    }

    private void prices() {
        says("Prices: of a parameter's, an answer's, a field's MARK held, and of a guard (3, 2, 5, 4 at first; 1 .. 99).");
        String parameter = "A(x){B(x);}B(y){a=y.p;}";
        String answer = "A(){a=B();b=a.p;}B(){return any;}";
        String field = "A(){a=new n n;if any{a.p=a;}b=a.p;b=b.p;b=b.p;}";
        String guard = "A(x){a=x.p;}";
        String[] texts = {parameter, answer, field, guard};
        int[] first = {3, 2, 5, 4};
        for (int k = 0; k < 4; k++) {
            good(texts[k], k < 2 ? 2 : 1);
            mend(first[k]);
        }
        for (int n = 1; n <= 99; n++) {
            for (int k = 0; k < 4; k++) {
                x = new NothingJudge();
                price(3, 99, true);
                price(k, n, true);
                good(texts[k], k < 2 ? 2 : 1);
                int most = k == 2 ? 198 : 99;
                mend(Math.min(n, most));
            }
        }
        x = new NothingJudge();
        good(field, 1);
        price(2, 99, true);
        mendOf(8, 2);
        price(3, 99, true);
        mendOf(99, 0, 200);
        price(0, 99, true);
        price(1, 99, true);
        good("A(x){" + times("if any{a=x.p;}", 24) + "}", 1);
        mendOf(24 * 99, 24);
    }

    private void candidates() {
        says("CANDIDATES: the MARKS that are 3, without OUTER ones: parameters, by routines' letters and numbers, answers "
            + "by letters, fields; the first ten.");
        // By letters, not along the text or the CALLS: either would do, the first one is taken.
        good("A(x){C(x);}C(y){B(y);}B(z){a=z.p;}", 3);
        mendOf(3, 0, 10);
        good("H(x){G(x);}G(y){B(y);}B(z){a=z.p;}", 3);
        mendOf(3, 0, 10);
        good("A(x){t=new n n;B(x,t);}B(y,z){if any{B(y,y);}a=z.p;}", 2);
        mendOf(3, 0, 10);
        good("A(x){t=new n n;B(t,x);}B(y,z){if any{B(z,z);}a=y.p;}", 2);
        mendOf(3, 0, 10);
        good("A(x){t=new n n;B(t,x,t,t);}B(w,x,y,z){if any{B(t,t,x,x);}a=z.p;}", 2);
        mendOf(3, 0, 11);
        // Parameters ahead of answers, these by letters, and fields behind them.
        x.price(1, 3);
        x.price(2, 3);
        good("A(x){y=B(x);a=y.p;}B(z){return z;}", 2);
        mendOf(3, 0, 10);
        good("A(){a=C();b=a.p;}C(){return B();}B(){return any;}", 3);
        mendOf(3, 0, 110);
        good("A(){a=B();b=a.p;}B(){c=new n n;c.p=c;return c.p;}", 2);
        mark(2, 0, 0, 3);
        mendOf(3, 0, 110);
        good("A(o){a=new o n;a.q=o;b=a.q;a.p=b;x=a.p;y=x.p;}", 1);
        x.outer(0, 2);
        fields(3, 3);
        mendOf(3, 0, 200);
        outersAreNone();
        firstTen();
    }

    private void outersAreNone() {
        good("A(x){a=x.p;}", 1);
        mendOf(4, 1);
        good("A(x){if any{A(x);}a=x.p;}", 1);
        mendOf(4, 1);
        good("A(x){if x is nothing{y=new x x;A(y);}else{a=b.p;}}B(z){A(z);a=z.p;}", 2);
        x.outer(0, 1);
        mark(0, 0, 0, 3);
        mendOf(4, 1);
        good("A(x){a=x.p;}B(z){A(z);}", 2);
        mendOf(4, 1);
        x.entry(1);
        mendOf(3, 0, 0);
    }

    private void firstTen() {
        x = new NothingJudge();
        x.price(0, 1);
        x.price(1, 1);
        x.price(2, 1);
        String four = "(a,b,c,d){";
        String calls = "B(x,x,x,x);C(x,x,x,x);D(x,x,x,x);";
        // The tenth parameter is D's second one; its third and fourth are no CANDIDATES.
        for (int k = 0; k < 4; k++) {
            String use = "z=" + "abcd".charAt(k) + ".p;";
            good("A(x){" + calls + "}B" + four + "}C" + four + "}D" + four + use + "}", 4);
            if (k < 2) {
                mendOf(1, 0, 30 + k);
            } else {
                mendOf(4, 1);
            }
        }
        // An answer or a field is the tenth or the eleventh.
        String nine = "A(x){B(x,x,x,x);C(x,x,x,x);";
        good(nine + "D(x);y=E();z=y.p;}B" + four + "}C" + four + "}D(a){}E(){return any;}", 5);
        mendOf(1, 0, 140);
        good(nine + "D(x,x);y=E();z=y.p;}B" + four + "}C" + four + "}D(a,b){}E(){return any;}", 5);
        mendOf(4, 1);
        String field = "y=new n n;if any{y.p=y;}y=y.p;z=y.p;}";
        good(nine + "D(x);" + field + "B" + four + "}C" + four + "}D(a){}", 4);
        mendOf(1, 0, 200);
        good(nine + "D(x,x);" + field + "B" + four + "}C" + four + "}D(a,b){}", 4);
        mendOf(4, 1);
        String other = "y=new n n;if any{y.q=y;}y=y.q;z=y.p;}";
        good(nine + "D(x);" + other + "B" + four + "}C" + four + "}D(a){}", 4);
        mendOf(4, 1);
        x = new NothingJudge();
        x.price(0, 1);
        String uses = "z=a.p;z=b.p;z=c.p;z=d.p;";
        good("A(x){B(x,x,x,x);C(x,x,x,x);D(x,x,x,x);}B" + four + uses + "}C" + four + uses + "}D" + four + uses + "}", 4);
        mendOf(10 + 8, 2, 10, 11, 12, 13, 20, 21, 22, 23, 30, 31);
    }

    private void mends() {
        says("MEND: the set of these for which the prices of what is HELD, and a guard for each USE that is DOUBTFUL or "
            + "SURE then, are least together; of several the one with the least number (bit k: the k-th).");
        good("A(){}", 1);
        mendOf(0, 0);
        good("A(x){a=x.p;b=n.p;}", 1);
        mendOf(8, 2);
        x.outer(0, 1);
        mendOf(4, 1);
        x.outer(0, 2);
        mendOf(4, 1);
        good("A(x){t=new n n;a=t.p;if x not nothing{a=x.p;}}", 1);
        mendOf(0, 0);
        // Two parameters, each for itself.
        good("A(x,y){B(x,y);}B(w,z){a=w.p;a=z.p;}", 2);
        mendOf(6, 0, 10, 11);
        x.price(3, 3);
        mendOf(6, 2);
        x.price(3, 2);
        mendOf(4, 2);
        // Alike with and without: the least number holds none.
        x.price(3, 4);
        x.price(0, 4);
        mendOf(8, 2);
        // Two of the first are a lesser number than one of the third.
        good("A(){a=C();B(a,a);}B(y,z){b=y.p;b=z.p;}C(){return any;}", 3);
        x.price(0, 1);
        x.price(1, 2);
        mendOf(2, 0, 10, 11);
        x.price(1, 1);
        mendOf(1, 0, 120);
        x.price(1, 3);
        mendOf(2, 0, 10, 11);
        // What is HELD and a guard together.
        x = new NothingJudge();
        good("A(x){B(x);a=x.p;}B(y){a=y.p;b=n.q;}", 2);
        mendOf(3 + 4, 1, 10);
        good("A(x){B(x);a=x.p;}B(y){a=y.p;}", 2);
        mendOf(3 + 4, 1, 10);
        // With more HELD a USE may be SURE no more, since it is never reached.
        good("A(x){B(x);}B(y){if y is nothing{a=n.p;}}", 2);
        mendOf(3, 0, 10);
        // What is HELD for one USE may be dearer than its guard, and for two cheaper.
        good("A(x){if any{B(x);}}B(y){if any{a=y.p;}else{a=y.q;}}", 2);
        x.price(0, 7);
        mendOf(7, 0, 10);
        x.price(0, 8);
        mendOf(8, 2);
        x.price(0, 9);
        mendOf(8, 2);
        chains();
    }

    private void chains() {
        // Ten in a chain: the first one mends all, so does none that is behind it.
        x = new NothingJudge();
        good("H(x){A(x);}A(x){a=x.p;x=any;B(x);}B(x){a=x.p;x=any;C(x);}C(x){a=x.p;x=any;D(x);}D(x){a=x.p;x=any;E(x);}"
            + "E(x){a=x.p;x=any;F(x);}F(x){a=x.p;x=any;G(x);}G(x){a=x.p;}", 8);
        mendOf(21, 0, 0, 10, 20, 30, 40, 50, 60);
        x.price(0, 5);
        mendOf(28, 7);
        x.price(0, 4);
        mendOf(28, 7);
        good("H(x){G(x);}A(x){a=x.p;}B(x){A(x);}C(x){B(x);}D(x){C(x);}E(x){D(x);}F(x){E(x);}G(x){F(x);}", 8);
        mendOf(4, 1);
        x.price(0, 3);
        mendOf(3, 0, 0);
        good("H(x){G(x);a=x.q;}A(x){a=x.p;}B(x){A(x);}C(x){B(x);a=x.p;}D(x){C(x);}E(x){D(x);}F(x){E(x);a=x.p;}G(x){F(x);}", 8);
        mendOf(3 + 4, 1, 50);
    }

    private void price() {
        says("A price, what 0: of a parameter's, 1: an answer's, 2: a field's MARK held, 3: a guard: true;");
        String[] texts = {"A(x){B(x);}B(y){a=y.p;}", "A(){a=B();b=a.p;}B(){return any;}",
            "A(){a=new n n;if any{a.p=a;}b=a.p;b=b.p;}B(){}", "A(x){a=x.p;}B(){}"};
        for (int k = 0; k < 4; k++) {
            for (int what = 0; what < 4; what++) {
                x = new NothingJudge();
                for (int other = 0; other < 4; other++) {
                    price(other, other == 3 ? 50 : 20, true);
                }
                good(texts[k], 2);
                mend(k == 3 ? 50 : 20);
                price(what, 7, true);
                boolean sinks = what == k || what == 3;
                mend(sinks ? 7 : k == 3 ? 50 : 20);
                price(what, 30, true);
                mend(k == 3 ? (what == 3 ? 30 : 50) : (what == k ? 30 : 20));
            }
        }
        // A price stays with another text, ENTRY and a FAULT.
        x = new NothingJudge();
        price(3, 11, true);
        good("A(x){a=x.p;}B(y){a=y.p;}", 2);
        mend(11);
        x.entry(1);
        mend(11);
        bad("A(", 1, 2);
        mend(11);
        good("C(x){a=x.q;}", 1);
        mend(11);

        says("3: a guard: true; false: no such what, price.");
        good("A(x){B(x);}B(y){a=y.p;b=n.p;}", 2);
        for (int far : FAR) {
            if (far < 0 || far > 3) {
                price(far, 1, false);
                price(far, 99, false);
            }
            for (int what = 0; what < 4; what++) {
                if (far < 1 || far > 99) {
                    price(what, far, false);
                }
            }
        }
        mendOf(3 + 4, 1, 10);
        x = new NothingJudge();
        price(0, 0, false);
        price(0, 100, false);
        price(0, 1, true);
        price(0, 99, true);
        price(0, -1, false);
        good("A(x){B(x);}B(y){a=y.p;}", 2);
        mendOf(4, 1);
        price(3, 99, true);
        price(3, 100, false);
        price(3, 0, false);
        mendOf(99, 1);
    }

    private void mend() {
        says("MEND: its price; NONE: no routines.");
        mend(NONE);
        good("A(x){a=x.p;}", 1);
        mend(4);
        mend(4);
        x.outer(0, 2);
        mend(0);
        x.outer(0, 3);
        mend(4);
        use(0, 0, 2);
        mark(0, 0, 0, 3);
        count(4, 1);
        bad("B(", 1, 2);
        mend(4);
        // What is HELD is HELD for mend() alone.
        good("A(x){B(x);y=C();y.p=y;}B(y){a=y.p;if y is nothing{}}C(){if any{}return any;}", 3);
        mendOf(5, 0, 10, 120);
        mark(0, 1, 0, 3);
        mend(5);
        mark(1, 2, 0, 3);
        mend(5);
        uses(2, 2);
        mend(5);
        test(0, 0, 2);
        mend(5);
        count(4, 2);
        mend(5);
        tries(1, 0);
        run(0, 0, 2);
        good("", 0);
        mend(NONE);
        price(3, 9, true);
        mend(NONE);
        good("A(){}", 1);
        mend(0);
    }

    private void mended() {
        says("Of the latest mend() that was not NONE, as it was then: what 0: how many MARKS are HELD, 1: how many guards; "
            + "2 + k: the k-th that is HELD: 100 times its kind, and 10 times its routine's LETTER (0 of a field), and its "
            + "number (0 of an answer).");
        for (char letter = 'B'; letter <= 'H'; letter++) {
            for (int k = 0; k < 4; k++) {
                String arguments = "t,t,t,t".substring(0, k * 2) + "x" + ",t,t,t,t".substring(0, 6 - k * 2);
                good("A(x){t=new n n;" + letter + "(" + arguments + ");}" + letter + "(a,b,c,d){z=" + "abcd".charAt(k)
                    + ".p;}", 2);
                mendOf(3, 0, (letter - 'A') * 10 + k);
            }
            good("A(){a=" + letter + "();b=a.p;}" + letter + "(){return any;}", 2);
            mendOf(2, 0, 100 + (letter - 'A') * 10);
        }
        good("B(x){A(x);}A(y){a=y.p;}", 2);
        mendOf(3, 0, 0);
        good("B(){a=A();b=a.p;}A(){return any;}", 2);
        mendOf(2, 0, 100);
        good("A(){a=new n n;if any{a.p=a;}b=a.p;b=b.p;b=b.p;}", 1);
        mendOf(5, 0, 200);
        good("A(){a=new n n;if any{a.q=a;}b=a.q;b=b.q;b=b.q;}", 1);
        mendOf(5, 0, 201);
        ofAllKinds();
        asItWasThen();

        says("and its number (0 of an answer). NONE if there is none such.");
        for (int what : FAR) {
            mended(what, NONE);
        }
        mend(NONE);
        mended(0, NONE);
        good("A(){}", 1);
        mended(0, NONE);
        mended(1, NONE);
        mendOf(0, 0);
        for (int what : FAR) {
            mended(what, what == 0 || what == 1 ? 0 : NONE);
        }
        good("A(x,y){B(x,y);}B(w,z){a=w.p;a=z.p;}", 2);
        mend(6);
        for (int what : FAR) {
            mended(what, what == 0 ? 2 : what == 1 ? 0 : what == 2 ? 10 : what == 3 ? 11 : NONE);
        }
        good("A(x){a=x.p;}", 1);
        mend(4);
        for (int what : FAR) {
            mended(what, what == 0 ? 0 : what == 1 ? 1 : NONE);
        }
    }

    private void ofAllKinds() {
        x.price(2, 2);
        good("A(x){B(x);y=C();a=y.p;t=new n n;if any{t.q=t;}u=t.q;a=u.p;b=n.p;}B(z){a=z.p;}C(){return any;}", 3);
        uses(2, 1, 1, 2, 3, 2);
        fields(3, 3);
        mendOf(3 + 2 + 2 + 4, 1, 10, 120, 201);
    }

    private void asItWasThen() {
        good("A(x){B(x);}B(y){a=y.p;}", 2);
        mend(3);
        x.price(0, 99);
        mendedIs10();
        x.outer(0, 2);
        mendedIs10();
        x.entry(1);
        mendedIs10();
        x.use(0, 0);
        x.mark(0, 1, 0);
        x.tries(0);
        x.run(0, 0);
        mendedIs10();
        good("A(z){}", 1);
        mendedIs10();
        bad("1", 1, 0);
        mendedIs10();
        good("", 0);
        mend(NONE);
        mendedIs10();
        good("A(x){a=x.p;}", 1);
        mendOf(4, 1);
    }

    private void mendedIs10() {
        mended(0, 1);
        mended(1, 0);
        mended(2, 10);
        mended(3, NONE);
    }

    private void calls() {
        says("An object is used for at most 512 calls after it has been made; what later calls answer is free.");
        // 512 calls, and each of them as due.
        int calls = 0;
        String text = "A(x,y){while any{x=B(y);}a=x.p;}B(z){return z;}     ";
        while (calls + 14 <= 512) {
            tape(text);
            due("text", x.text(47), 2);
            outer(0, 2, true);
            use(0, 0, 2);
            mark(1, 1, 0, 3);
            test(0, 0, 0);
            run(1, 0, 0);
            ran(0, 2);
            tries(0, 257);
            mend(2);
            mended(2, 110);
            count(4, 1);
            calls += 14;
        }
        while (calls < 512) {
            count(0, 2);
            calls++;
        }
    }
}
