/** Part 3 of the document's terms, FACTS and MARKS, and promises 7 to 9 and 16. */
final class FactSentences extends Sheet {
    @Override
    void check() {
        facts();
        leastMarks();
        outersAndCalls();
        answers();
        puts();
        anys();
        reached();
        ways();
        values();
        ends();
        notReached();
        behindUses();
        verdicts();
        mark();
        use();
        test();
        count();
    }

    private void facts() {
        says("A FACT is a set of NOTHING (1) and THING (2): 0 none, 3 either.");
        good("A(x){y=new n n;B(n,y,x);C(n);C(y);}B(a,b,c){}C(d){}D(e){}", 4);
        mark(0, 1, 0, 1);
        mark(0, 1, 1, 2);
        mark(0, 1, 2, 3);
        mark(0, 2, 0, 3);
        mark(0, 3, 0, 0);
        mark(1, 3, 0, 0);
        good("A(x){B(x);if x is nothing{C(x);}else{D(x);}}B(y){}C(y){}D(y){}", 4);
        for (int fact = 1; fact <= 3; fact++) {
            x.outer(0, fact);
            mark(0, 1, 0, fact);
            mark(0, 2, 0, fact & 1);
            mark(0, 3, 0, fact & 2);
        }
    }

    private void leastMarks() {
        says("MARKS: a FACT for each parameter and answer of each routine and for each of the two fields; they are the "
            + "least such that:");
        String text = "A(a,b,c,d){B(d,c,b,a);return new n n;}";
        for (char letter = 'B'; letter <= 'H'; letter++) {
            String next = letter < 'H' ? (char) (letter + 1) + "(d,c,b,a);" : "";
            text += letter + "(a,b,c,d){" + next + "return " + (letter % 2 == 0 ? "n" : "new n n") + ";}";
        }
        good(text, 8);
        x.outer(0, 1);
        x.outer(1, 2);
        x.outer(2, 1);
        x.outer(3, 3);
        int[] told = {1, 2, 1, 3};
        for (int letter = 0; letter < 8; letter++) {
            for (int k = 0; k < 4; k++) {
                mark(0, letter, k, told[letter % 2 == 0 ? k : 3 - k]);
            }
            mark(1, letter, 0, letter % 2 == 0 ? 2 : 1);
        }
        fields(3, 3);
        good("A(){a=B(a);return a;}B(x){if any{return B(x);}return x;}", 2);
        mark(0, 1, 0, 1);
        mark(1, 1, 0, 1);
        mark(1, 0, 0, 1);
        good("A(){a=B();return a;}B(){a=C();return a;}C(){return B();}", 3);
        mark(1, 0, 0, 0);
        mark(1, 1, 0, 0);
        mark(1, 2, 0, 0);
        good("A(){a=new n n;while any{b=a.p;a.p=b;b=a.q;a.p=b;}return b;}", 1);
        fields(1, 1);
        mark(1, 0, 0, 1);
        good("A(){while any{a=a;}return a;}", 1);
        mark(1, 0, 0, 1);
        fields(0, 0);
    }

    private void outersAndCalls() {
        says("OUTER parameters of the ENTRY have what is told;");
        good("A(w,x){B(x,w);}B(y,z){}", 2);
        for (int fact = 1; fact <= 3; fact++) {
            for (int other = 1; other <= 3; other++) {
                x.outer(0, fact);
                x.outer(1, other);
                mark(0, 0, 0, fact);
                mark(0, 0, 1, other);
                mark(0, 1, 0, other);
                mark(0, 1, 1, fact);
            }
        }
        x.entry(1);
        mark(0, 0, 0, 0);
        mark(0, 1, 0, 3);
        x.outer(0, 1);
        mark(0, 1, 0, 1);
        good("A(x){if x is nothing{y=new x x;A(y);}}", 1);
        x.outer(0, 1);
        mark(0, 0, 0, 3);
        x.outer(0, 2);
        mark(0, 0, 0, 2);

        says("each reached CALL's arguments are in its routine's parameters;");
        good("A(){t=new n n;B(n,t,n,t);a=C(t);t.p=D(n);return E(t);}B(a,b,c,d){}C(x){}D(x){}E(x){}", 5);
        mark(0, 1, 0, 1);
        mark(0, 1, 1, 2);
        mark(0, 1, 2, 1);
        mark(0, 1, 3, 2);
        mark(0, 2, 0, 2);
        mark(0, 3, 0, 1);
        mark(0, 4, 0, 2);
        good("A(){t=new n n;B(t);if any{B(n);}}B(x){}", 2);
        mark(0, 1, 0, 3);
        good("A(){t=new n n;B(t);return;B(n);}B(x){}", 2);
        mark(0, 1, 0, 2);
        good("A(){t=new n n;B(t);u=n.p;B(n);}B(x){}", 2);
        mark(0, 1, 0, 2);
        good("A(){t=new n n;B(t);if t is nothing{B(n);}}B(x){}", 2);
        mark(0, 1, 0, 2);
        good("A(){t=new n n;B(t);}B(x){}C(){B(n);}", 3);
        mark(0, 1, 0, 2);
        good("A(x){x.p=B(x);C(x);}B(y){}C(z){}", 3);
        mark(0, 1, 0, 3);
        mark(0, 2, 0, 2);
        good("A(){x=any;x=B(x);C(x);}B(y){}C(z){}", 3);
        mark(0, 1, 0, 3);
        mark(0, 2, 0, 1);
        good("A(){B(n);}B(x){y=new x x;C(x);C(y);}C(x){B(x);}", 3);
        mark(0, 2, 0, 1);
        mark(0, 1, 0, 1);
        good("A(){B(n);}B(x){if any{return;}y=new x x;C(x);C(y);}C(x){B(x);}", 3);
        mark(0, 2, 0, 3);
        mark(0, 1, 0, 3);
    }

    private void answers() {
        says("what each reached return (or end) answers is in the answer;");
        String[] returns = {"return;", "return nothing;", "return n;", "", "n=n;", "return new n n;", "return any;"};
        int[] marks = {1, 1, 1, 1, 1, 2, 3};
        for (int k = 0; k < returns.length; k++) {
            good("A(){" + returns[k] + "}", 1);
            mark(1, 0, 0, marks[k]);
            good("A(){return B();}B(){" + returns[k] + "}", 2);
            mark(1, 0, 0, marks[k]);
            mark(1, 1, 0, marks[k]);
            for (int other = 0; other < returns.length; other++) {
                good("A(){if any{" + returns[k] + "}else{" + returns[other] + "}" + (k > 4 ? "return any;" : "") + "}", 1);
                boolean ends = k == 3 || k == 4 || other == 3 || other == 4;
                int behind = !ends ? 0 : k > 4 ? 3 : 1;
                int first = k == 3 || k == 4 ? 0 : marks[k];
                int second = other == 3 || other == 4 ? 0 : marks[other];
                mark(1, 0, 0, first | second | behind);
            }
        }
        good("A(x){return x;}", 1);
        for (int fact = 1; fact <= 3; fact++) {
            x.outer(0, fact);
            mark(1, 0, 0, fact);
        }
        good("A(){a=new n n;a.p=a;a=new a n;return a.q;}", 1);
        mark(1, 0, 0, 1);
        good("A(){a=new n n;a.p=a;a=new a n;return a.p;}", 1);
        mark(1, 0, 0, 3);
        good("A(){return new n n;return;}", 1);
        mark(1, 0, 0, 2);
        good("A(){t=new n n;if t is nothing{return;}return t;}", 1);
        mark(1, 0, 0, 2);
        good("A(){while n is nothing{}}", 1);
        mark(1, 0, 0, 0);
        good("A(){n.p=n;}", 1);
        mark(1, 0, 0, 0);
        good("A(){return n.p;}", 1);
        mark(1, 0, 0, 0);
        good("A(x){while x is nothing{x=any;}return x;}", 1);
        mark(1, 0, 0, 2);
    }

    private void puts() {
        says("what is reached to be put into a field, by new or a STATEMENT, is in the field's;");
        good("A(){a=new n n;}", 1);
        fields(1, 1);
        good("A(){a=new n n;b=new a n;}", 1);
        fields(3, 1);
        good("A(){a=new n n;b=new n a;}", 1);
        fields(1, 3);
        good("A(){a=new n n;a.p=a;}", 1);
        fields(3, 1);
        good("A(){a=new n n;a.q=a;}", 1);
        fields(1, 3);
        good("A(){return new n n;}", 1);
        fields(1, 1);
        good("A(){a=new n n;a.p=B();}B(){return new a a;}", 2);
        fields(3, 1);
        good("A(){a=new n n;a.p=a;a.q=a.p;}", 1);
        fields(3, 3);
        good("A(){return;a=new n n;}", 1);
        fields(0, 0);
        good("A(){}B(){a=new n n;}", 2);
        fields(0, 0);
        good("A(){n.p=n;}", 1);
        fields(0, 0);
        good("A(){n.p=new n n;}", 1);
        fields(1, 1);
        good("A(){a=new n n;n.p=a;}", 1);
        fields(1, 1);
        good("A(){a=new n n;n.p=B(a);}B(x){x.q=x;}", 2);
        fields(1, 3);
        good("A(){a=n.p;b=new a a;}", 1);
        fields(0, 0);
        good("A(x){x.p=n;}", 1);
        x.outer(0, 1);
        fields(0, 0);
        x.outer(0, 2);
        fields(3, 2);
        good("A(x){x.p=x;}", 1);
        fields(3, 2);
        good("A(x){x.p=x;}", 1);
        x.outer(0, 2);
        fields(2, 2);
        good("A(){a=new n n;if a is nothing{b=new a a;}else{b=new n a;}}", 1);
        fields(1, 3);
    }

    private void anys() {
        says("any, and OUTER parameters that may be a THING, put THING into both fields.");
        good("A(){a=any;}", 1);
        fields(2, 2);
        good("A(){return any;}", 1);
        fields(2, 2);
        good("A(){n.q=any;}", 1);
        fields(2, 2);
        good("A(){B();}B(){a=any;}", 2);
        fields(2, 2);
        good("A(){return;a=any;}", 1);
        fields(0, 0);
        good("A(){}B(){a=any;}", 2);
        fields(0, 0);
        good("A(){if any{}while any{}}", 1);
        fields(0, 0);
        good("A(){a=any;a=new n n;}", 1);
        fields(3, 3);
        good("A(w,x){}B(){}C(y){}", 3);
        fields(2, 2);
        int[] put = {0, 0, 2, 2};
        for (int fact = 1; fact <= 3; fact++) {
            for (int other = 1; other <= 3; other++) {
                x.outer(0, fact);
                x.outer(1, other);
                fields(put[fact] | put[other], put[fact] | put[other]);
            }
        }
        x.entry(1);
        fields(0, 0);
        x.entry(2);
        fields(2, 2);
        x.outer(0, 1);
        fields(0, 0);
    }

    private void reached() {
        says("The ENTRY alone is reached at first; a routine is by a reached CALL.");
        good("A(x){if x not nothing{B();}a=n.p;}B(){a=n.p;}C(){D();a=n.p;}D(){if any{}}E(){while any{E();}}", 5);
        uses(3, 3, 0);
        tests(0, 3, 3);
        mark(1, 3, 0, 0);
        x.outer(0, 1);
        uses(3, 0, 0);
        x.entry(2);
        uses(0, 0, 3);
        tests(3, 0, 3);
        mark(1, 3, 0, 1);
        mark(1, 1, 0, 0);
        x.entry(4);
        tests(3, 3, 0);
        mark(1, 4, 0, 1);
        good("A(){a=B();}B(){a.p=C();}C(){return D();}D(){E();}E(){if any{}}", 5);
        tests(0);
        good("A(){return;B();}B(){if any{}}", 2);
        tests(3);
        good("A(){C();B();}B(){if any{}}C(){C();}", 3);
        tests(3);
    }

    private void ways() {
        says("In a routine each NAME has a FACT at each place, by all ways to it together:");
        good("A(){if any{a=new n n;}b=a.p;}", 1);
        uses(2);
        good("A(){if any{a=new n n;}else{a=new n n;}b=a.p;}", 1);
        uses(1);
        good("A(){if any{a=new n n;}else{a=n;}b=a.p;}", 1);
        uses(2);
        good("A(){a=new n n;if any{a=n;return;}b=a.p;}", 1);
        uses(1);
        good("A(){a=new n n;while any{b=a.p;a=n;}c=a.q;}", 1);
        uses(2, 2);
        good("A(){while any{if any{a=new n n;}}b=a.p;}", 1);
        uses(2);
        good("A(){a=new n n;while any{if any{a=new n n;}else{return;}}b=a.p;}", 1);
        uses(1);
        good("A(x){if x is nothing{y=n;}else{y=new n n;}if x not nothing{z=y.p;}}", 1);
        uses(2);
        good("A(x){y=x;if x not nothing{z=y.p;}}", 1);
        uses(2);
        good("A(){a=new n n;B();b=a.p;}B(){a=n;b=a.p;}", 2);
        uses(0, 3);
        good("A(){a=new n n;B();b=a.p;}B(){a=n;}", 2);
        uses(1);
        for (char name = 'a'; name <= 'z'; name++) {
            char other = name == 'z' ? 'a' : (char) (name + 1);
            good("A(){" + name + "=any;" + other + "=" + name + ".p;" + name + "=" + name + ".q;}", 1);
            uses(2, 1);
        }
        for (char name = 'a'; name <= 'z'; name++) {
            for (char other = 'a'; other <= 'z'; other++) {
                if (name != other) {
                    twoNames(String.valueOf(name), String.valueOf(other));
                }
            }
        }
    }

    /** What is put into a NAME, or found of it, is nothing to another. */
    private void twoNames(String one, String two) {
        String uses = "if any{return " + one + ".p;}return " + two + ".p;}";
        String[] values = {"nothing", "new " + one + " " + two, "any"};
        int[] verdicts = {3, 1, 2};
        for (int k = 0; k < 3; k++) {
            for (int other = 0; other < 3; other++) {
                text("A(){" + one + "=" + values[k] + ";" + two + "=" + values[other] + ";" + uses, 1);
                uses(verdicts[k], verdicts[other]);
            }
        }
        text("A(" + one + "," + two + "){" + two + ".p=" + two + ";" + uses, 1);
        uses(2, 2, 1);
        text("A(" + one + "," + two + "){if " + two + " is nothing{" + uses + "}", 1);
        uses(2, 3);
    }

    private void values() {
        says("that of the VALUE put into it (a field's, an answer's MARK; any: 3; new: 2);");
        good("A(){a=nothing;b=a.p;}", 1);
        uses(3);
        good("A(){a=any;b=a.p;}", 1);
        uses(2);
        good("A(){a=new n n;b=a.p;}", 1);
        uses(1);
        good("A(x){a=x;b=a.p;}", 1);
        int[] verdicts = {0, 3, 1, 2};
        for (int fact = 1; fact <= 3; fact++) {
            x.outer(0, fact);
            uses(verdicts[fact]);
        }
        good("A(){t=new n n;a=t.p;b=t.q;if any{c=a.p;}else{c=b.p;}}", 1);
        uses(1, 1, 3, 3);
        good("A(){t=new n n;a=t.p;b=t.q;if any{c=a.p;}else{c=b.p;}t.q=t;}", 1);
        uses(1, 1, 3, 3, 0);
        good("A(){t=new n n;if any{t.q=t;}a=t.p;b=t.q;if any{c=a.p;}else{c=b.p;}}", 1);
        uses(1, 1, 1, 3, 2);
        good("A(o){t=new o o;a=t.p;b=t.q;a=a.p;b=b.p;}", 1);
        x.outer(0, 2);
        uses(1, 1, 1, 1);
        good("A(){t=new n n;B(t);a=t.p;b=a.p;}B(x){x.p=x;}", 2);
        uses(1, 2, 1);
        for (int fact = 1; fact <= 3; fact++) {
            String answer = fact == 1 ? "n" : fact == 2 ? "new n n" : "any";
            good("A(){a=B();b=a.p;}B(){return " + answer + ";}", 2);
            uses(verdicts[fact]);
        }
        good("A(){a=any;a=n;b=a.p;}", 1);
        uses(3);
        good("A(){a=n;a=new a a;b=a.p;}", 1);
        uses(1);
    }

    private void ends() {
        says("at a TEST's two ends what is left: is nothing: 1 of it, else 2 of it;");
        for (String word : new String[] {"is", "not"}) {
            int left = word.equals("is") ? 1 : 2;
            good("A(x){if x " + word + " nothing{B(x);}else{C(x);}D(x);}B(y){}C(y){}D(y){}", 4);
            for (int fact = 1; fact <= 3; fact++) {
                x.outer(0, fact);
                mark(0, 1, 0, fact & left);
                mark(0, 2, 0, fact & ~left);
                mark(0, 3, 0, fact);
            }
            good("A(x){while x " + word + " nothing{B(x);x=any;}C(x);}B(y){}C(y){}", 3);
            mark(0, 1, 0, left);
            mark(0, 2, 0, 3 - left);
            good("A(x){if x " + word + " nothing{return;}B(x);}B(y){}", 2);
            mark(0, 1, 0, 3 - left);
            good("A(x,y){if x " + word + " nothing{B(y);}else{C(y);}}B(y){}C(y){}", 3);
            mark(0, 1, 0, 3);
            mark(0, 2, 0, 3);
        }
        good("A(x){if x not nothing{if x is nothing{B(x);}C(x);}}B(y){}C(y){}", 3);
        mark(0, 1, 0, 0);
        mark(0, 2, 0, 2);

        says("If, while: both ends of a TEST any are reached.");
        good("A(x){if any{B(x);}else{C(x);}while any{D(x);}E(x);}B(y){}C(y){}D(y){}E(y){}", 5);
        tests(0, 0);
        for (int fact = 1; fact <= 3; fact++) {
            x.outer(0, fact);
            for (int letter = 1; letter <= 4; letter++) {
                mark(0, letter, 0, fact);
            }
        }
    }

    private void notReached() {
        says("a way with a NAME of FACT 0 isn't reached, nor is what is behind a CALL whose answer is 0.");
        good("A(){if n not nothing{a=n.p;if any{}}else{b=any;}}", 1);
        uses(0);
        tests(2, 3);
        good("A(){while n is nothing{a=n;}if any{}}", 1);
        tests(1, 3);
        good("A(){t=new n n;while t not nothing{}if any{}}", 1);
        tests(1, 3);
        good("A(){a=n.p;if any{}}", 1);
        tests(3);
        good("A(){n.p=a;if any{}}", 1);
        tests(3);
        String[] never = {"B();", "while n is nothing{}", "n.p=n;", "a=n.p;", "return n.q;", "return B();", "a=B();",
            "if any{B();}else{n.p=n;}", "t=new n n;t.p=B();"};
        for (String body : never) {
            for (String call : new String[] {"B();", "a=B();", "t=new n n;t.p=B();", "a=C();", "C();"}) {
                good("A(){" + call + "if any{}}B(){" + body + "}C(){return B();}", 3);
                test(0, 0, 3);
                mark(1, 0, 0, 0);
                mark(1, 1, 0, 0);
            }
        }
        good("A(){a.p=B();}B(){B();}", 2);
        uses(0);
        good("A(){return B();}B(){B();}", 2);
        mark(1, 0, 0, 0);
        good("A(){if any{B();}if any{}}B(){B();}", 2);
        tests(0, 0);
        good("A(){if any{a=new n n;B();}else{}b=a.p;}B(){B();}", 2);
        uses(3);
        good("A(){B();if any{}}B(){if any{B();}}", 2);
        test(0, 0, 0);
        mark(1, 1, 0, 1);
    }

    private void behindUses() {
        says("Behind a USE its NAME's FACT is without 1.");
        good("A(x){a=x.p;b=x.q;}", 1);
        uses(2, 1);
        good("A(x){x.p=n;x.q=n;}", 1);
        uses(2, 1);
        good("A(x){x.p=x.q;}", 1);
        uses(1, 2);
        good("A(x){x.p=n;if x is nothing{}return x;}", 1);
        tests(2);
        mark(1, 0, 0, 2);
        good("A(x,y){x.p=y.q;a=x.q;b=y.q;}", 1);
        uses(2, 2, 1, 1);
        good("A(x){y=x;x.p=n;y.q=n;}", 1);
        uses(2, 2);
        good("A(x){if any{a=x.p;}b=x.p;}", 1);
        uses(2, 2);
        good("A(x){if any{a=x.p;}else{a=x.q;}b=x.p;}", 1);
        uses(2, 2, 1);
        good("A(x){while any{a=x.p;b=x.p;}c=x.p;}", 1);
        uses(2, 1, 2);
        good("A(x){y=x.p;x.p=n;}B(x){}", 2);
        uses(2, 1);
        good("A(x){B(x);a=x.p;}B(x){b=x.p;}", 2);
        uses(2, 2);
        good("A(x){a=x.p;x=any;b=x.p;}", 1);
        uses(2, 2);
        good("A(x){x.p=n;x=x.p;a=x.q;}", 1);
        uses(2, 1, 2);
        good("A(){a=n.p;a=n.q;}", 1);
        uses(3, 0);
        good("A(x){x.p=B(x);C(x);}B(y){}C(z){}", 3);
        mark(0, 1, 0, 3);
        mark(0, 2, 0, 2);
    }

    private void verdicts() {
        says("A USE is 0 never reached, 1 SAFE (FACT 2), 2 DOUBTFUL (3), 3 SURE to fail (1).");
        good("A(x){x.p=n;}B(y){a=y.q;}", 2);
        uses(2, 0);
        x.outer(0, 1);
        uses(3, 0);
        x.outer(0, 2);
        uses(1, 0);
        x.outer(0, 3);
        uses(2, 0);
        x.entry(1);
        uses(0, 2);
        x.outer(0, 1);
        uses(0, 3);
        x.outer(0, 2);
        uses(0, 1);

        says("A TEST is 0 open, 1 always true, 2 never true, 3 never reached.");
        good("A(x){if x is nothing{}if x not nothing{}}B(y){while y is nothing{y=y;}while y not nothing{y=n;}}", 2);
        tests(0, 0, 3, 3);
        x.outer(0, 1);
        tests(1, 2, 3, 3);
        x.outer(0, 2);
        tests(2, 1, 3, 3);
        x.entry(1);
        tests(3, 3, 0, 0);
        x.outer(0, 1);
        tests(3, 3, 1, 3);
        x.outer(0, 2);
        tests(3, 3, 2, 0);
        good("A(){if any{}while any{}return;if any{}}", 1);
        tests(0, 0, 3);
        good("A(){while n is nothing{n=new n n;}}", 1);
        tests(0);
        good("A(){while n not nothing{n=new n n;}}", 1);
        tests(2);
    }

    private void mark() {
        says("A MARK, kind 0: parameter k, 1: the answer (k isn't looked at) of the routine of a LETTER, 2: field k (0 p, "
            + "1 q; routine isn't looked at; 0 without routines).");
        for (int far : FAR) {
            mark(2, far, 0, 0);
            mark(2, far, 1, 0);
        }
        good("C(x,y){y.p=n;return x;}A(z){}", 2);
        x.outer(0, 2);
        mark(0, 2, 0, 2);
        mark(0, 2, 1, 3);
        for (int far : FAR) {
            mark(1, 2, far, 2);
            mark(1, 0, far, 0);
            mark(2, far, 0, 3);
            mark(2, far, 1, 2);
        }
        x.run(3, 0);
        x.mend();
        x.tries(0);
        mark(2, 0, 0, 3);
        mark(0, 2, 1, 3);
        good("", 0);
        fields(0, 0);

        says("0 without routines). NONE if there is none such.");
        for (int far : FAR) {
            mark(0, far, 0, NONE);
            mark(1, far, 0, NONE);
        }
        good("A(){}C(x,y){}H(a,b,c,d){}", 3);
        for (int far : FAR) {
            mark(0, 0, far, NONE);
            mark(0, 2, far, far == 0 || far == 1 ? 0 : NONE);
            mark(0, 7, far, far >= 0 && far < 4 ? 0 : NONE);
            mark(0, far, 0, far == 2 || far == 7 ? 0 : NONE);
            mark(1, far, 0, far == 0 ? 1 : far == 2 || far == 7 ? 0 : NONE);
            mark(2, 0, far, far == 0 || far == 1 ? 0 : NONE);
            if (far < 0 || far > 2) {
                mark(far, 0, 0, NONE);
                mark(far, 2, 1, NONE);
            }
        }
        good("", 0);
        mark(0, 0, 0, NONE);
        mark(1, 0, 0, NONE);
        mark(2, 0, 2, NONE);
        mark(3, 0, 0, NONE);
    }

    private void use() {
        says("Of a USE, what 0: 0 .. 3 as in 3., 1: its routine's LETTER, 2: its place in the text, 3: its NAME (0 .. 25).");
        String text = "  H(z)\n{ a=z . p;z.q=a.p; }A(){y.p=b.q;}";
        good(text, 2);
        int[][] wanted = {{2, 7, 11, 25}, {1, 7, 17, 25}, {1, 7, 21, 0}, {0, 0, 31, 24}, {0, 0, 35, 1}};
        for (int k = 0; k < 5; k++) {
            for (int what = 0; what < 4; what++) {
                use(k, what, wanted[k][what]);
            }
        }
        String many = "A(){" + times("a.p=z.q;", 20) + "}";
        good(many, 1);
        for (int k = 0; k < 40; k++) {
            use(k, 2, 4 + 4 * k);
            use(k, 3, k % 2 == 0 ? 0 : 25);
        }

        says("3: its NAME (0 .. 25). NONE if there is none such.");
        for (int far : FAR) {
            use(far, 0, NONE);
        }
        good("A(x){x.p=x.q;}", 1);
        for (int far : FAR) {
            for (int what = 0; what < 4; what++) {
                if (far != 0 && far != 1) {
                    use(far, what, NONE);
                }
            }
            if (far < 0 || far > 3) {
                use(0, far, NONE);
                use(1, far, NONE);
            }
        }
        good("A(){" + times("a.p=a;", 40) + "}", 1);
        use(39, 0, 0);
        use(40, 0, NONE);
        good("A(){}", 1);
        use(0, 0, NONE);
        use(0, 2, NONE);
    }

    private void test() {
        says("Of a TEST, what 0: 0 .. 3 as in 3., 1: its routine's LETTER, 2: the place of its first TOKEN.");
        good(" C(x){if  x is nothing{}while\nany{}}\nB(){if x not nothing{}}", 2);
        int[][] wanted = {{0, 2, 10}, {0, 2, 30}, {3, 1, 44}};
        for (int k = 0; k < 3; k++) {
            for (int what = 0; what < 3; what++) {
                test(k, what, wanted[k][what]);
            }
        }
        x.outer(0, 1);
        test(0, 0, 1);
        x.entry(1);
        test(2, 0, 2);
        good("A(){" + times("if any{}", 24) + "}", 1);
        for (int k = 0; k < 24; k++) {
            test(k, 0, 0);
            test(k, 2, 7 + 8 * k);
        }

        says("2: the place of its first TOKEN. NONE if there is none such.");
        for (int far : FAR) {
            test(far, 0, NONE);
        }
        good("A(x){if x is nothing{}while any{}}", 1);
        for (int far : FAR) {
            for (int what = 0; what < 3; what++) {
                if (far != 0 && far != 1) {
                    test(far, what, NONE);
                }
            }
            if (far < 0 || far > 2) {
                test(0, far, NONE);
                test(1, far, NONE);
            }
        }
        good("A(){" + times("if any{}", 24) + "}", 1);
        test(23, 0, 0);
        test(24, 0, NONE);
        good("A(){}", 1);
        test(0, 0, NONE);
        test(0, 2, NONE);
    }

    private void count() {
        says("0 routines, 1 USES, 2 TESTS, 3 the ENTRY's LETTER (NONE), 4 USES that are DOUBTFUL, 5 SURE ones.");
        int[] none = {0, 0, 0, NONE, 0, 0};
        counts(none);
        good("G(x,y){if x not nothing{a=x.p;}a=y.p;a=y.p;if any{a=x.p;}else{a=n.q;}}A(){n.p=n.q;while any{}}", 2);
        counts(2, 7, 3, 6, 2, 1);
        x.outer(0, 1);
        counts(2, 7, 3, 6, 1, 2);
        x.outer(1, 2);
        counts(2, 7, 3, 6, 0, 2);
        x.outer(1, 1);
        counts(2, 7, 3, 6, 0, 1);
        x.entry(0);
        counts(2, 7, 3, 0, 0, 1);
        x.mend();
        x.tries(0);
        counts(2, 7, 3, 0, 0, 1);
        bad("A(){", 1, 4);
        counts(2, 7, 3, 0, 0, 1);
        good("A(x){" + times("if any{return x.p;}", 24) + "}", 1);
        counts(1, 24, 24, 0, 24, 0);
        x.outer(0, 1);
        counts(1, 24, 24, 0, 0, 24);
        good("", 0);
        counts(none);

        says("5 SURE ones. NONE for another what.");
        for (int what : FAR) {
            if (what < 0 || what > 5) {
                count(what, NONE);
            }
        }
        good("A(x){x.p=x;}", 1);
        for (int what : FAR) {
            if (what < 0 || what > 5) {
                count(what, NONE);
            }
        }
    }

    private void counts(int... wanted) {
        for (int what = 0; what < wanted.length; what++) {
            count(what, wanted[what]);
        }
    }
}
