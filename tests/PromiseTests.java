import java.util.NoSuchElementException;

/** For each promise of the document: ordinary inputs, the edges it names, and wrong inputs. */
public final class PromiseTests {
    private static final Class<?> INDEX = IndexOutOfBoundsException.class;
    private static final Class<?> ARGUMENT = IllegalArgumentException.class;
    private static final Class<?> STATE = IllegalStateException.class;
    private static final Class<?> UNSUPPORTED = UnsupportedOperationException.class;
    private static final Class<?> NO_ELEMENT = NoSuchElementException.class;
    private static final Class<?> ARITHMETIC = ArithmeticException.class;

    private static final String OMEGA = "(^x.xx)(^x.xx)";

    private static int wrong;
    private static int asked;
    private static int promise;

    interface Call {
        Object answer();
    }

    private static void due(Object want, Object got) {
        asked++;
        if (!want.equals(got)) {
            wrong++;
            StackTraceElement at = new Throwable().getStackTrace()[1];
            System.out.println("promise " + promise + ", line " + at.getLineNumber() + ": answered " + got + ", due is "
                    + want);
        }
    }

    /** The call must throw just this, and change nothing. */
    private static void dueThrow(Boehmgarth g, Class<?> want, Call call) {
        asked++;
        String before = state(g);
        String got;
        try {
            got = String.valueOf(call.answer());
        } catch (RuntimeException e) {
            got = e.getClass().getName();
        }
        if (!got.equals(want.getName()) || !before.equals(state(g))) {
            wrong++;
            StackTraceElement at = new Throwable().getStackTrace()[1];
            System.out.println("promise " + promise + ", line " + at.getLineNumber() + ": answered " + got + ", due is "
                    + want.getName() + " and no change");
        }
    }

    private static String state(Boehmgarth g) {
        StringBuilder state = new StringBuilder().append(g.terms()).append(' ').append(g.checksum()).append(' ');
        return state.append(g.fault()).toString();
    }

    private static void type(Boehmgarth g, String text) {
        for (char sign : text.toCharArray()) {
            g.type(sign);
        }
    }

    private static int add(Boehmgarth g, String text) {
        type(g, text);
        return g.term();
    }

    private static String signs(Boehmgarth g, int term) {
        StringBuilder signs = new StringBuilder();
        for (int i = 0; i < g.size(term); i++) {
            signs.append(g.signAt(term, i));
        }
        return signs.toString();
    }

    private static String signsOf(String text) {
        Boehmgarth g = new Boehmgarth();
        return signs(g, add(g, text));
    }

    private static String tree(Boehmgarth g, int term, int depth) {
        StringBuilder signs = new StringBuilder();
        for (int i = 0; i < g.treeSigns(term, depth); i++) {
            signs.append(g.treeAt(term, depth, i));
        }
        return signs.toString();
    }

    private static String treeOf(String text, int depth) {
        Boehmgarth g = new Boehmgarth();
        return tree(g, add(g, text), depth);
    }

    private static String typeOf(String text) {
        Boehmgarth g = new Boehmgarth();
        int term = add(g, text);
        StringBuilder signs = new StringBuilder();
        try {
            for (int i = 0; i < 401; i++) {
                signs.append(g.typeAt(term, i));
            }
        } catch (NoSuchElementException e) {
            return signs.toString();
        }
        return "endless";
    }

    private static String combinatorsOf(String text) {
        Boehmgarth g = new Boehmgarth();
        int term = add(g, text);
        StringBuilder signs = new StringBuilder();
        for (int i = 0; i < g.combinators(term); i++) {
            signs.append(g.combinatorAt(term, i));
        }
        return signs.toString();
    }

    private static int faultOf(String text) {
        Boehmgarth g = new Boehmgarth();
        type(g, text);
        return g.fault();
    }

    private static Boehmgarth full() {
        Boehmgarth g = new Boehmgarth();
        for (int i = 0; i < 40; i++) {
            g.number(0);
        }
        return g;
    }

    /** A term of the size 199: x applied to others, so that one more abstraction is the last that fits. */
    private static int addSize199(Boehmgarth g) {
        int half = add(g, "xxxxxxxxxxxxxxxxxxxxxxxxxxxxxxxxxxxxxxxxxxxxxxxxxx");
        return g.apply(half, half);
    }

    /** A term of so many abstractions inside one another. */
    private static int addNested(Boehmgarth g, int nested) {
        String fifteen = "^a.^a.^a.^a.^a.^a.^a.^a.^a.^a.^a.^a.^a.^a.^a.";
        int outer = add(g, fifteen + "x");
        int inner = add(g, fifteen.substring(0, 3 * (nested - 15)) + "x");
        return g.put(outer, 'x', inner);
    }

    private static void promise1() {
        Boehmgarth g = new Boehmgarth();
        due(0, g.terms());
        due(0, g.clear());
        due(0L, g.checksum());
        dueThrow(g, INDEX, () -> g.size(0));
    }

    private static void promise2() {
        Boehmgarth g = new Boehmgarth();
        for (char sign : "A@Z{`/?+*,-0 \0\u00e9\uffff\n".toCharArray()) {
            dueThrow(g, ARGUMENT, () -> g.type(sign));
        }
        int there = 0;
        for (char sign : "az^.()".toCharArray()) {
            there++;
            due(there, g.type(sign));
        }
        while (there < 60) {
            there++;
            due(there, g.type('q'));
        }
        dueThrow(g, STATE, () -> g.type('q'));
        dueThrow(g, ARGUMENT, () -> g.type('Q'));
        due(60, g.clear());
        due(1, g.type('z'));
    }

    private static void promise3() {
        Boehmgarth g = new Boehmgarth();
        due(0, g.clear());
        type(g, "^x");
        due(2, g.clear());
        due(0, g.clear());
        due(0, g.fault());
    }

    private static void promise4() {
        String[] texts = {"", "x", "^", "^x", "^x.", "^x.x", "()", "(x)", ")", "x)", "(x", "((x)", "(x))", "x.", ".", "^^",
            "^.", "^(", "^x)", "^xy", "^x^", "^x..", "x^y.y", "x^y.", "(^x.)", "(^x.x)y", "^x.^y.x(y)z", "x()", "^x.(y",
            "(((x)))", "a.b", "(a(b", "^x.x)"};
        int[] faults = {0, -1, 1, 2, 3, -1, 1, -1, 0, 1, 2, 4, 3, 1, 0, 1, 1, 1, 2, 2, 2, 3, -1, 4, 4, -1, -1, 2, 5, -1,
            1, 4, 4};
        for (int i = 0; i < texts.length; i++) {
            due(texts[i] + " " + faults[i], texts[i] + " " + faultOf(texts[i]));
        }
        StringBuilder open = new StringBuilder();
        for (int i = 0; i < 60; i++) {
            open.append('(');
        }
        due(60, faultOf(open.toString()));
        due(-1, faultOf(open.substring(0, 29) + "ab" + open.substring(0, 29).replace('(', ')')));
    }

    private static void promise5() {
        Boehmgarth g = new Boehmgarth();
        due(0, add(g, "x"));
        due(0, g.clear());
        due(1, add(g, "^x.xy"));
        dueThrow(g, UNSUPPORTED, () -> g.term());
        type(g, "(x");
        dueThrow(g, UNSUPPORTED, () -> g.term());
        due(2, g.clear());
        due("@@xyz", signsOf("xyz"));
        due("@x@yz", signsOf("x(yz)"));
        due("@x^A", signsOf("x^y.y"));
        due("@x^@Az", signsOf("x^y.yz"));
        due("@@x^Az", signsOf("x(^y.y)z"));
        due("^^^@@CA@BA", signsOf("^x.^y.^z.xz(yz)"));
        due("^^A", signsOf("^x.^x.x"));
        due("^@^AA", signsOf("^x.(^x.x)x"));
        due("@@@xyzx", signsOf("(((x)y)z)x"));
        due("^@@x@A^@BAA", signsOf("^y.x(y(^z.yz))y"));
        Boehmgarth full = full();
        dueThrow(full, UNSUPPORTED, () -> full.term());
        type(full, "x");
        dueThrow(full, STATE, () -> full.term());
        due(1, full.clear());
    }

    private static void promise6() {
        Boehmgarth g = new Boehmgarth();
        dueThrow(g, ARGUMENT, () -> g.number(-1));
        dueThrow(g, ARGUMENT, () -> g.number(21));
        dueThrow(g, ARGUMENT, () -> g.number(Integer.MIN_VALUE));
        dueThrow(g, ARGUMENT, () -> g.number(Integer.MAX_VALUE));
        due(0, g.number(0));
        due("^^A", signs(g, 0));
        due(1, g.number(3));
        due("^^@B@B@BA", signs(g, 1));
        due(2, g.number(20));
        due(43, g.size(2));
        Boehmgarth full = full();
        dueThrow(full, STATE, () -> full.number(1));
        dueThrow(full, ARGUMENT, () -> full.number(21));
    }

    private static void promise7() {
        Boehmgarth g = new Boehmgarth();
        int x = add(g, "^x.xz");
        int y = add(g, "y");
        due(2, g.apply(x, y));
        due("@^@Azy", signs(g, 2));
        due(3, g.apply(y, y));
        due("@yy", signs(g, 3));
        for (int no : new int[] {-1, 4, 40, Integer.MIN_VALUE, Integer.MAX_VALUE}) {
            dueThrow(g, INDEX, () -> g.apply(no, 0));
            dueThrow(g, INDEX, () -> g.apply(0, no));
        }
        int great = addSize199(g);
        dueThrow(g, UNSUPPORTED, () -> g.apply(great, y));
        Boehmgarth two = new Boehmgarth();
        int half = add(two, "^y.yxxxxxxxxxxxxxxxxxxxxxxxxxxxxxxxxxxxxxxxxxxxxxxxxx");
        int other = add(two, "xxxxxxxxxxxxxxxxxxxxxxxxxxxxxxxxxxxxxxxxxxxxxxxxxx");
        due(200, two.size(two.apply(half, other)));
        dueThrow(two, UNSUPPORTED, () -> two.apply(half, half));
        Boehmgarth full = full();
        dueThrow(full, STATE, () -> full.apply(0, 39));
        full.copy(39, 39);
        dueThrow(full, INDEX, () -> full.apply(40, 0));
    }

    private static void promise8() {
        Boehmgarth g = new Boehmgarth();
        int t = add(g, "x(^y.xyz)x");
        due("^@@A^@@BAzA", signs(g, g.abstraction(t, 'x')));
        due("^@@x^@@xAzx", signs(g, g.abstraction(t, 'y')));
        due("^@@x^@@xABx", signs(g, g.abstraction(t, 'z')));
        for (char letter : "A@`{.\0\uffff".toCharArray()) {
            dueThrow(g, ARGUMENT, () -> g.abstraction(t, letter));
            dueThrow(g, INDEX, () -> g.abstraction(-1, letter));
        }
        dueThrow(g, INDEX, () -> g.abstraction(4, 'x'));
        int great = addSize199(g);
        int greatest = g.abstraction(great, 'x');
        due(200, g.size(greatest));
        dueThrow(g, UNSUPPORTED, () -> g.abstraction(greatest, 'x'));
        dueThrow(g, ARGUMENT, () -> g.abstraction(greatest, 'X'));
        Boehmgarth nested = new Boehmgarth();
        int deep = addNested(nested, 25);
        due(26, nested.size(deep));
        dueThrow(nested, UNSUPPORTED, () -> nested.abstraction(deep, 'x'));
        Boehmgarth far = new Boehmgarth();
        int last = add(far, "x");
        for (char letter = 'a'; letter <= 'w'; letter++) {
            last = far.abstraction(last, letter);
        }
        last = far.abstraction(last, 'y');
        last = far.abstraction(last, 'x');
        due('Y', far.signAt(last, 25));
        Boehmgarth full = full();
        dueThrow(full, STATE, () -> full.abstraction(0, 'x'));
    }

    private static void promise9() {
        Boehmgarth g = new Boehmgarth();
        int t = add(g, "^y.x(xy)z");
        int part = add(g, "y(^z.zx)");
        due("^@@@y^@Ax@@y^@AxAz", signs(g, g.put(t, 'x', part)));
        due("^@@x@xA@y^@Ax", signs(g, g.put(t, 'z', part)));
        due("^@@x@xAz", signs(g, g.put(t, 'y', part)));
        due("^@@@y^@Ax@@y^@AxAz", signs(g, 2));
        dueThrow(g, INDEX, () -> g.put(5, 'x', 0));
        dueThrow(g, INDEX, () -> g.put(0, 'x', 5));
        dueThrow(g, INDEX, () -> g.put(-1, 'X', 0));
        dueThrow(g, ARGUMENT, () -> g.put(0, 'X', 0));
        int great = addSize199(g);
        dueThrow(g, UNSUPPORTED, () -> g.put(great, 'x', t));
        dueThrow(g, ARGUMENT, () -> g.put(great, '.', t));
        Boehmgarth nested = new Boehmgarth();
        int deep = addNested(nested, 24);
        int one = add(nested, "^x.y");
        int two = add(nested, "^x.^z.y");
        due(26, nested.size(nested.put(one, 'y', deep)));
        dueThrow(nested, UNSUPPORTED, () -> nested.put(two, 'y', deep));
        Boehmgarth full = full();
        dueThrow(full, STATE, () -> full.put(0, 'x', 0));
    }

    private static void promise10() {
        Boehmgarth g = new Boehmgarth();
        int x = add(g, "^x.x");
        int y = add(g, "yz");
        due(3, g.copy(y, x));
        due("@yz", signs(g, x));
        due(3, g.copy(y, y));
        due("@yz", signs(g, y));
        g.copy(add(g, "(^x.x)a"), x);
        g.step(x, 'n');
        due("a", signs(g, x));
        due("@^Aa", signs(g, 2));
        dueThrow(g, INDEX, () -> g.copy(3, 0));
        dueThrow(g, INDEX, () -> g.copy(0, 3));
        dueThrow(g, INDEX, () -> g.copy(0, -1));
    }

    private static void promise11() {
        Boehmgarth g = new Boehmgarth();
        due(1, g.size(add(g, "x")));
        due(4, g.size(add(g, "^x.xx")));
        due(200, g.size(g.abstraction(addSize199(g), 'x')));
        dueThrow(g, INDEX, () -> g.size(-1));
        dueThrow(g, INDEX, () -> g.size(5));
    }

    private static void promise12() {
        Boehmgarth g = new Boehmgarth();
        int t = add(g, "xy(^x.xy)x");
        due(2, g.places(t, 'x'));
        due(2, g.places(t, 'y'));
        due(0, g.places(t, 'z'));
        dueThrow(g, ARGUMENT, () -> g.places(t, 'A'));
        dueThrow(g, ARGUMENT, () -> g.places(t, '@'));
        dueThrow(g, INDEX, () -> g.places(1, 'A'));
    }

    private static void promise13() {
        Boehmgarth g = new Boehmgarth();
        due(true, g.isClosed(add(g, "^x.^y.xy")));
        due(false, g.isClosed(add(g, "^x.^y.xyz")));
        due(false, g.isClosed(add(g, "(^x.x)x")));
        dueThrow(g, INDEX, () -> g.isClosed(3));
    }

    private static void promise14() {
        Boehmgarth g = new Boehmgarth();
        int one = add(g, "^x.^y.xyz");
        int two = add(g, "^a.^b.abz");
        int three = add(g, "^a.^b.abx");
        int four = add(g, "^a.^b.baz");
        int five = add(g, "^a.^b.ab");
        due(true, g.areSame(one, two));
        due(true, g.areSame(one, one));
        due(false, g.areSame(one, three));
        due(false, g.areSame(one, four));
        due(false, g.areSame(one, five));
        due(false, g.areSame(five, one));
        dueThrow(g, INDEX, () -> g.areSame(0, 5));
        dueThrow(g, INDEX, () -> g.areSame(5, 0));
    }

    private static void promise15() {
        Boehmgarth g = new Boehmgarth();
        int t = add(g, "(^x.^y.xyz)z");
        due("@^^@@BAzz", signs(g, t));
        dueThrow(g, NO_ELEMENT, () -> g.signAt(t, 9));
        dueThrow(g, NO_ELEMENT, () -> g.signAt(t, -1));
        dueThrow(g, NO_ELEMENT, () -> g.signAt(t, Integer.MAX_VALUE));
        dueThrow(g, INDEX, () -> g.signAt(1, -1));
    }

    private static void promise16() {
        Boehmgarth g = new Boehmgarth();
        for (int i = 0; i <= 20; i++) {
            due(i, g.numberOf(g.number(i)));
        }
        for (String text : new String[] {"x", "^f.f", "^f.^x.xf", "^f.^x.f", "^f.^x.ffx", "^f.^x.fy", "^f.^x.^y.f",
            "^f.^x.f(xx)", "(^x.x)(^f.^x.x)", "^f.f(^x.x)", "^f.^x.y"}) {
            int term = add(g, text);
            dueThrow(g, NO_ELEMENT, () -> g.numberOf(term));
        }
        due(0, g.numberOf(add(g, "^y.^y.y")));
        Boehmgarth h = new Boehmgarth();
        int times = add(h, "^m.^n.^f.m(nf)");
        int product = h.apply(h.apply(times, h.number(5)), h.number(6));
        h.reduce(product, 'n', 60);
        due(30, h.numberOf(product));
        int part = add(h, "f(f(f(f(f(f(f(f(f(f(f(f(f(fy)))))))))))))");
        int seven = part;
        for (int i = 1; i < 7; i++) {
            seven = h.put(seven, 'y', part);
        }
        due(98, h.numberOf(h.abstraction(h.abstraction(seven, 'y'), 'f')));
        dueThrow(h, INDEX, () -> h.numberOf(-1));
    }

    private static void promise17() {
        Boehmgarth g = new Boehmgarth();
        due(0, g.redexes(add(g, "x(^x.x)")));
        due(1, g.redexes(add(g, OMEGA)));
        due(3, g.redexes(add(g, "(^x.(^y.y)x)((^z.z)a)")));
        dueThrow(g, INDEX, () -> g.redexes(3));
    }

    private static void promise18() {
        Boehmgarth g = new Boehmgarth();
        int t = add(g, "a(^x.(^y.y)x)((^x.(^y.y)x)((^z.z)a))");
        due("@@a^@^AA@^@^AA@^Aa", signs(g, t));
        due(4, g.redexAt(t, 0));
        due(8, g.redexAt(t, 1));
        due(10, g.redexAt(t, 2));
        due(14, g.redexAt(t, 3));
        dueThrow(g, NO_ELEMENT, () -> g.redexAt(t, 4));
        dueThrow(g, NO_ELEMENT, () -> g.redexAt(t, -1));
        dueThrow(g, NO_ELEMENT, () -> g.redexAt(t, Integer.MAX_VALUE));
        dueThrow(g, INDEX, () -> g.redexAt(1, -1));
    }

    private static void promise19() {
        Boehmgarth g = new Boehmgarth();
        int t = add(g, "^a.(^x.^y.xya)(^z.az)y");
        due("^@@^^@@BAC^@BAy", signs(g, t));
        due(12, g.contract(t, 0));
        due("^@^@@^@CAAB" + "y", signs(g, t));
        due(9, g.contract(t, 1));
        due("^@^@@BABy", signs(g, t));
        due(6, g.contract(t, 0));
        due("^@@AyA", signs(g, t));
        dueThrow(g, NO_ELEMENT, () -> g.contract(t, 0));
        dueThrow(g, NO_ELEMENT, () -> g.contract(t, -1));
        dueThrow(g, INDEX, () -> g.contract(1, 0));
        int caught = add(g, "^y.(^x.^y.xy)y");
        g.contract(caught, 0);
        due("^^@BA", signs(g, caught));
        int away = add(g, "(^x.y)(zz)");
        due(1, g.contract(away, 0));
        int great = add(g, "(^x.xxxxxxxxxxxxxxxxxxxx)(yyyyyyyyyy)");
        dueThrow(g, UNSUPPORTED, () -> g.contract(great, 0));
        Boehmgarth nested = new Boehmgarth();
        int deep = nested.apply(add(nested, "^x.^y.x"), addNested(nested, 25));
        dueThrow(nested, UNSUPPORTED, () -> nested.contract(deep, 0));
        int fit = nested.apply(add(nested, "^x.^y.x"), addNested(nested, 24));
        due(26, nested.contract(fit, 0));
        int root = nested.apply(addNested(nested, 25), add(nested, "z"));
        due(25, nested.contract(root, 0));
        Boehmgarth most = new Boehmgarth();
        int exact = add(most, "(^x.^u.xxxxxxxxxx)(yyyyyyyyyy)");
        due(200, most.contract(exact, 0));
        // The 201st sign is one of the argument, and then one of the body.
        int argumentLast = add(most, "(^x.^u.^v.xxxxxxxxxx)(yyyyyyyyyy)");
        dueThrow(most, UNSUPPORTED, () -> most.contract(argumentLast, 0));
        int bodyLast = add(most, "(^x.xxxxxxxxxxy)(yyyyyyyyyy)");
        dueThrow(most, UNSUPPORTED, () -> most.contract(bodyLast, 0));
    }

    private static void promise20() {
        Boehmgarth g = new Boehmgarth();
        int t = add(g, "(^x.(^y.yx)(xx))((^z.z)a)");
        due("@^@^@AB@AA@^Aa", signs(g, t));
        due(3, g.residuals(t, 2, 0));
        due(1, g.residuals(t, 1, 0));
        due(1, g.residuals(t, 0, 1));
        due(1, g.residuals(t, 2, 1));
        due(1, g.residuals(t, 0, 2));
        due(0, g.residuals(t, 0, 0));
        due(0, g.residuals(t, 2, 2));
        int away = add(g, "(^x.y)((^z.z)a)");
        due(0, g.residuals(away, 1, 0));
        due(1, g.residuals(away, 0, 1));
        // What comes to be a redex is none of the residuals.
        due(1, g.residuals(add(g, "(^x.xa((^u.u)x))(^y.y)"), 1, 0));
        dueThrow(g, NO_ELEMENT, () -> g.residuals(t, 3, 0));
        dueThrow(g, NO_ELEMENT, () -> g.residuals(t, 0, 3));
        dueThrow(g, NO_ELEMENT, () -> g.residuals(t, 0, -1));
        dueThrow(g, INDEX, () -> g.residuals(3, 5, 5));
        int great = add(g, "(^x.xxxxxxxxxxxxxxxxxxxx)(yyyyyyyyy((^z.z)y))");
        dueThrow(g, UNSUPPORTED, () -> g.residuals(great, 1, 0));
        dueThrow(g, UNSUPPORTED, () -> g.residuals(great, 0, 0));
        dueThrow(g, NO_ELEMENT, () -> g.residuals(great, 2, 0));
        due(1, g.residuals(great, 0, 1));
    }

    private static void promise21() {
        Boehmgarth g = new Boehmgarth();
        int t = add(g, "(^x.(^y.yx)(xx))((^z.z)a)");
        for (int one = 0; one < 3; one++) {
            for (int other = 0; other < 3; other++) {
                due(true, g.joins(t, one, other));
            }
        }
        dueThrow(g, NO_ELEMENT, () -> g.joins(t, 3, 0));
        dueThrow(g, NO_ELEMENT, () -> g.joins(t, 0, -1));
        dueThrow(g, INDEX, () -> g.joins(1, 3, 0));
        due(true, g.joins(add(g, "(^x.xx)((^y.yyy)(zz))"), 0, 1));
        int great = add(g, "(^x.xxxxxxxxxxxxxxxxxxxx)(yyyyyyyyy((^z.z)y))");
        dueThrow(g, UNSUPPORTED, () -> g.joins(great, 0, 1));
        dueThrow(g, UNSUPPORTED, () -> g.joins(great, 1, 0));
        dueThrow(g, UNSUPPORTED, () -> g.joins(great, 0, 0));
        // Each contraction fits alone, both together are too great.
        int both = add(g, "(^x.xxxxxxxx)((^z.zzzz)(yyyy))");
        due(8, g.residuals(both, 1, 0));
        dueThrow(g, UNSUPPORTED, () -> g.joins(both, 0, 1));
    }

    private static void promise22() {
        Boehmgarth g = new Boehmgarth();
        int t = add(g, "(^x.xx)((^y.y)a)");
        int keep = g.apply(t, t);
        g.copy(t, keep);
        due(true, g.step(keep, 'n'));
        due("@@^Aa@^Aa", signs(g, keep));
        g.copy(t, keep);
        due(true, g.step(keep, 'a'));
        due("@^@AAa", signs(g, keep));
        g.copy(t, keep);
        due(true, g.step(keep, 'p'));
        due("@aa", signs(g, keep));
        due(false, g.step(keep, 'p'));
        due(false, g.step(keep, 'n'));
        due(false, g.step(keep, 'a'));
        int left = add(g, "^u.(^x.x)v((^y.y)a)");
        due(false, g.step(left, 'w'));
        due(true, g.step(left, 'h'));
        due("^@v@^Aa", signs(g, left));
        due(false, g.step(left, 'h'));
        due(true, g.step(left, 'n'));
        due("^@va", signs(g, left));
        int weak = add(g, "(^x.^u.(^z.z)x)vw");
        due(true, g.step(weak, 'w'));
        due("@^@^Avw", signs(g, weak));
        due(true, g.step(weak, 'w'));
        due("@^Av", signs(g, weak));
        int first = add(g, "(^x.(^y.y)x)((^z.z)a)((^z.z)b)");
        due(true, g.step(first, 'a'));
        due("@@^A@^Aa@^Ab", signs(g, first));
        int fresh = add(g, "(^x.xa)(^y.y)");
        due(true, g.step(fresh, 'p'));
        due("@^Aa", signs(g, fresh));
        dueThrow(g, ARGUMENT, () -> g.step(t, 'x'));
        dueThrow(g, ARGUMENT, () -> g.step(t, 'N'));
        dueThrow(g, INDEX, () -> g.step(40, 'x'));
        int great = add(g, "(^x.y)((^x.xxxxxxxxxxxxxxxxxxxx)(yyyyyyyyyy))");
        dueThrow(g, UNSUPPORTED, () -> g.step(great, 'a'));
        // The parts inside are contracted first, and their abstractions come behind those of the body.
        int fourteen = add(g, "^x.^a.^a.^a.^a.^a.^a.^a.^a.^a.^a.^a.^a.^a.^a.x");
        int eleven = add(g, "(^y.^a.^a.^a.^a.^a.^a.^a.^a.^a.^a.^a.z)w");
        int twelve = add(g, "(^y.^a.^a.^a.^a.^a.^a.^a.^a.^a.^a.^a.^a.z)w");
        int fit = g.apply(fourteen, eleven);
        due(true, g.step(fit, 'p'));
        due(26, g.size(fit));
        int unfit = g.apply(fourteen, twelve);
        dueThrow(g, UNSUPPORTED, () -> g.step(unfit, 'p'));
        // A part that becomes too great on the way, though it is thrown away then.
        dueThrow(g, UNSUPPORTED, () -> g.step(great, 'p'));
        due(true, g.step(great, 'n'));
        due("y", signs(g, great));
    }

    private static void promise23() {
        Boehmgarth g = new Boehmgarth();
        String[] texts = {"x", "^x.(^y.y)x", "x((^y.y)x)", "(^y.y)x", "^x.x((^y.y)x)", "(^x.x)(^y.y)z", "^x.xx"};
        String[] normal = {"nahwp", "w", "hw", "", "hw", "", "nahwp"};
        for (int i = 0; i < texts.length; i++) {
            int term = add(g, texts[i]);
            for (char strategy : "nahwp".toCharArray()) {
                due(texts[i] + strategy + (normal[i].indexOf(strategy) >= 0),
                        texts[i] + strategy + g.isNormal(term, strategy));
            }
        }
        dueThrow(g, ARGUMENT, () -> g.isNormal(0, 'b'));
        dueThrow(g, INDEX, () -> g.isNormal(9, 'b'));
    }

    private static void promise24() {
        Boehmgarth g = new Boehmgarth();
        int t = add(g, "(^x.xx)((^y.y)a)");
        int work = add(g, "x");
        for (char strategy : "nap".toCharArray()) {
            g.copy(t, work);
            due(strategy == 'n' ? 3 : strategy == 'a' ? 2 : 1, g.reduce(work, strategy, 60));
            due("@aa", signs(g, work));
            due(0, g.reduce(work, strategy, 1));
        }
        g.copy(t, work);
        dueThrow(g, UNSUPPORTED, () -> g.reduce(work, 'n', 2));
        due(3, g.reduce(work, 'n', 3));
        int solved = add(g, "^u.(^x.x)v((^y.y)a)");
        due(0, g.reduce(solved, 'w', 1));
        due(1, g.reduce(solved, 'h', 1));
        dueThrow(g, ARGUMENT, () -> g.reduce(t, 'n', 0));
        dueThrow(g, ARGUMENT, () -> g.reduce(t, 'n', 61));
        dueThrow(g, ARGUMENT, () -> g.reduce(t, 'n', -1));
        dueThrow(g, ARGUMENT, () -> g.reduce(t, 'x', 5));
        dueThrow(g, INDEX, () -> g.reduce(9, 'x', 0));
        int omega = add(g, OMEGA);
        dueThrow(g, UNSUPPORTED, () -> g.reduce(omega, 'n', 60));
        int grows = add(g, "(^x.xxx)(^x.xxx)");
        dueThrow(g, UNSUPPORTED, () -> g.reduce(grows, 'n', 60));
        int lazy = add(g, "(^x.y)(" + OMEGA + ")");
        dueThrow(g, UNSUPPORTED, () -> g.reduce(lazy, 'a', 60));
        due(1, g.reduce(lazy, 'p', 60));
    }

    private static void promise25() {
        Boehmgarth g = new Boehmgarth();
        due('n', g.best(add(g, "x")));
        due('n', g.best(add(g, "(^x.x)a")));
        due('p', g.best(add(g, "(^x.xx)((^y.y)a)")));
        due('n', g.best(add(g, "(^x.y)(" + OMEGA + ")")));
        due('p', g.best(add(g, "(^x.xx)((^y.y)(^z.a))")));
        // By n and p, the part is put in twelve places as it is too great for it; by a, it is just c then.
        due('a', g.best(add(g, "(^x.xxxxxxxxxxxx)((^y.y(bbbbbbbbb))(^z.c))")));
        int omega = add(g, OMEGA);
        dueThrow(g, NO_ELEMENT, () -> g.best(omega));
        // One redex at a time: sixty steps, and one more.
        int identity = add(g, "^x.x");
        int sixty = g.put(add(g, "iiiiiiiiiiiiiiiiiiiiiiiiiiiiiiiiiiiiiiiiiiiiiiiiiiiiiiiiiiii"), 'i', identity);
        due('n', g.best(g.apply(sixty, add(g, "a"))));
        int more = g.apply(g.apply(sixty, identity), add(g, "a"));
        dueThrow(g, NO_ELEMENT, () -> g.best(more));
        dueThrow(g, UNSUPPORTED, () -> g.reduce(more, 'p', 60));
        due(60, g.reduce(g.apply(sixty, add(g, "a")), 'h', 60));
        int term = add(g, "(^x.xx)((^y.y)(^z.a))");
        String before = signs(g, term);
        g.best(term);
        due(before, signs(g, term));
        dueThrow(g, INDEX, () -> g.best(-1));
    }

    private static void promise26() {
        Boehmgarth g = new Boehmgarth();
        String[] texts = {"^x.fx", "^x.xx", "^x.^y.fxy", "^x.^y.xy", "^x.f(^y.xy)", "^x.(^y.fy)x", "^x.^y.fyx", "^x.x",
            "^z.^x.(^y.zy)x", "a(^x.bx)(^x.cx)", "^x.f(xx)", "^x.(^z.zx)x", "^a.^x.(^y.ay(^b.ab))x"};
        String[] signs = {"f", "^@AA", "f", "^A", "f", "f", "^^@@fAB", "^A", "^A", "@@abc", "^@f@AA", "^@^@ABA",
            "^^@@BAB"};
        int[] gone = {1, 0, 2, 1, 2, 2, 0, 0, 2, 2, 0, 0, 2};
        for (int i = 0; i < texts.length; i++) {
            int term = add(g, texts[i]);
            due(texts[i] + gone[i], texts[i] + g.eta(term));
            due(texts[i] + signs[i], texts[i] + signs(g, term));
        }
        dueThrow(g, INDEX, () -> g.eta(13));
    }

    private static void promise27() {
        Boehmgarth g = new Boehmgarth();
        due(true, g.isSolved(add(g, "x" + "(" + OMEGA + ")")));
        due(true, g.isSolved(add(g, "^y.(^x.xx)(^x.yx)")));
        due(false, g.isSolved(add(g, OMEGA)));
        due(false, g.isSolved(add(g, "^y." + OMEGA)));
        due(false, g.isSolved(add(g, OMEGA + "x")));
        Boehmgarth h = new Boehmgarth();
        // Each of so many pairs takes one step; the 21st is one too many.
        int twenty = add(h, "a");
        int identity = add(h, "^x.x");
        for (int i = 0; i < 20; i++) {
            int next = h.apply(identity, twenty);
            h.copy(next, twenty);
        }
        due(false, h.isSolved(h.apply(identity, twenty)));
        due(true, h.isSolved(twenty));
        dueThrow(g, INDEX, () -> g.isSolved(5));
        Boehmgarth wide = new Boehmgarth();
        due(true, wide.isSolved(wide.abstraction(addSize199(wide), 'x')));
    }

    private static void promise28() {
        Boehmgarth g = new Boehmgarth();
        int y = add(g, "^f.(^x.f(xx))(^x.f(xx))");
        due(1, g.treeSigns(y, 0));
        due(4, g.treeSigns(y, 1));
        due(6, g.treeSigns(y, 2));
        due(8, g.treeSigns(y, 3));
        due(10, g.treeSigns(y, 4));
        dueThrow(g, ARGUMENT, () -> g.treeSigns(y, -1));
        dueThrow(g, ARGUMENT, () -> g.treeSigns(y, 5));
        dueThrow(g, INDEX, () -> g.treeSigns(1, 5));
        due(1, g.treeSigns(add(g, OMEGA), 4));
        int three = add(g, "(^x.^f.f(xxf)(xxf)(xxf))(^x.^f.f(xxf)(xxf)(xxf))");
        due(80, g.treeSigns(three, 3));
        dueThrow(g, UNSUPPORTED, () -> g.treeSigns(three, 4));
        int deep = add(g, "(^y.yy)(^x.^a.^b.^c.^d.^e.^f.^g.a(xx))");
        due(28, g.treeSigns(deep, 3));
        dueThrow(g, UNSUPPORTED, () -> g.treeSigns(deep, 4));
        Boehmgarth h = new Boehmgarth();
        due(199, h.treeSigns(addSize199(h), 4));
        due(26, h.treeSigns(addNested(h, 25), 4));
        // Three times eight abstractions, and one or two around them.
        int eight = h.apply(add(h, "^y.yy"), add(h, "^x.^a.^a.^a.^a.^a.^a.^a.^a.a(xx)"));
        int once = h.abstraction(eight, 'z');
        int twice = h.abstraction(once, 'z');
        due(32, h.treeSigns(once, 3));
        dueThrow(h, UNSUPPORTED, () -> h.treeSigns(once, 4));
        dueThrow(h, UNSUPPORTED, () -> h.treeSigns(twice, 3));
        due(23, h.treeSigns(twice, 2));
        // What is too great by the abstractions of its own has no form that is found.
        int twelve = h.apply(add(h, "^y.yy"), add(h, "^x.^a.^a.^a.^a.^a.^a.^a.^a.^a.^a.^a.^a.a(xx)"));
        due(15, h.treeSigns(twelve, 1));
        due(1, h.treeSigns(h.abstraction(twelve, 'z'), 1));
    }

    private static void promise29() {
        due("^@A?", treeOf("^f.(^x.f(xx))(^x.f(xx))", 1));
        due("^@A@A@A@A?", treeOf("^f.(^x.f(xx))(^x.f(xx))", 4));
        due("?", treeOf("x", 0));
        due("x", treeOf("x", 1));
        due("@@a?@b?", treeOf("a(" + OMEGA + ")((^x.x)(bc))", 2));
        due("@@a?@bc", treeOf("a(" + OMEGA + ")((^x.x)(bc))", 3));
        due("^^@@Bz^@CA", treeOf("^x.^y.(^u.uz)x(^v.(^w.w)xv)", 3));
        due("^^@@B??", treeOf("^x.^y.(^u.uz)x(^v.(^w.w)xv)", 1));
        due("@x^^@BA", treeOf("x(^f.^y.(^z.fz)y)", 3));
        Boehmgarth g = new Boehmgarth();
        int t = add(g, "(^x.xa)b");
        due('@', g.treeAt(t, 2, 0));
        due('b', g.treeAt(t, 2, 1));
        due('a', g.treeAt(t, 2, 2));
        dueThrow(g, NO_ELEMENT, () -> g.treeAt(t, 2, 3));
        dueThrow(g, NO_ELEMENT, () -> g.treeAt(t, 2, -1));
        dueThrow(g, ARGUMENT, () -> g.treeAt(t, 5, -1));
        dueThrow(g, ARGUMENT, () -> g.treeAt(t, -1, 0));
        dueThrow(g, INDEX, () -> g.treeAt(1, 5, -1));
        int three = add(g, "(^x.^f.f(xxf)(xxf)(xxf))(^x.^f.f(xxf)(xxf)(xxf))");
        dueThrow(g, UNSUPPORTED, () -> g.treeAt(three, 4, 0));
        dueThrow(g, UNSUPPORTED, () -> g.treeAt(three, 4, -1));
    }

    private static void promise30() {
        Boehmgarth g = new Boehmgarth();
        int one = add(g, "^x.x(ab)");
        int two = add(g, "(^x.x)(^x.x(ac))");
        dueThrow(g, NO_ELEMENT, () -> g.unlikeAt(one, two, 0));
        dueThrow(g, NO_ELEMENT, () -> g.unlikeAt(one, two, 1));
        dueThrow(g, NO_ELEMENT, () -> g.unlikeAt(one, two, 2));
        due(5, g.unlikeAt(one, two, 3));
        due(5, g.unlikeAt(two, one, 4));
        due(1, g.unlikeAt(one, add(g, "^x.^y.x"), 1));
        due(0, g.unlikeAt(one, add(g, OMEGA), 1));
        dueThrow(g, NO_ELEMENT, () -> g.unlikeAt(one, one, 4));
        dueThrow(g, ARGUMENT, () -> g.unlikeAt(one, one, 5));
        dueThrow(g, ARGUMENT, () -> g.unlikeAt(one, two, -1));
        dueThrow(g, INDEX, () -> g.unlikeAt(one, 4, 5));
        dueThrow(g, INDEX, () -> g.unlikeAt(-1, one, 5));
        int three = add(g, "(^x.^f.f(xxf)(xxf)(xxf))(^x.^f.f(xxf)(xxf)(xxf))");
        dueThrow(g, UNSUPPORTED, () -> g.unlikeAt(three, one, 4));
        dueThrow(g, UNSUPPORTED, () -> g.unlikeAt(one, three, 4));
        due(2, g.unlikeAt(one, three, 3));
        int eight = g.apply(add(g, "^y.yy"), add(g, "^x.^a.^a.^a.^a.^a.^a.^a.^a.a(xx)"));
        int once = g.abstraction(eight, 'z');
        int twice = g.abstraction(once, 'z');
        due(9, g.unlikeAt(once, twice, 2));
        due(1, g.unlikeAt(once, one, 3));
        dueThrow(g, UNSUPPORTED, () -> g.unlikeAt(twice, one, 3));
        dueThrow(g, UNSUPPORTED, () -> g.unlikeAt(one, twice, 3));
    }

    private static void promise31() {
        Boehmgarth g = new Boehmgarth();
        int one = add(g, "x(y(za))");
        int two = add(g, "x(y(zb))");
        due(4, g.separated(one, two));
        due(3, g.separated(one, add(g, "x(y(aa))")));
        due(1, g.separated(one, add(g, "y")));
        int far = add(g, "x(x(x(xa)))");
        int further = add(g, "x(x(x(xb)))");
        dueThrow(g, NO_ELEMENT, () -> g.separated(far, further));
        dueThrow(g, NO_ELEMENT, () -> g.separated(one, one));
        int three = add(g, "(^x.^f.f(xxf)(xxf)(xxf))(^x.^f.f(xxf)(xxf)(xxf))");
        dueThrow(g, UNSUPPORTED, () -> g.separated(three, three));
        due(1, g.separated(three, one));
        dueThrow(g, INDEX, () -> g.separated(7, 0));
        dueThrow(g, INDEX, () -> g.separated(0, 7));
    }

    private static void promise32() {
        Boehmgarth g = new Boehmgarth();
        String[] typed = {"x", "^x.x", "xy", "^x.^y.^z.xz(yz)", "^f.^x.f(fx)", "(^x.x)(^x.x)", "x(^y.y)(^y.yz)",
            "(^i.^y.i)(^x.x)", "^f.^g.^x.f(gx)x"};
        String[] untyped = {"xx", "^x.xx", OMEGA, "(^i.ii)(^x.x)", "x(^y.y)(^y.yx)", "x(yx)(yy)", "^x.^y.xy(yx)", "x(xy)(yx)",
            "^f.(^x.f(xx))(^x.f(xx))"};
        for (String text : typed) {
            due(text + true, text + g.hasType(add(g, text)));
        }
        for (String text : untyped) {
            due(text + false, text + g.hasType(add(g, text)));
        }
        due(true, g.hasType(g.number(20)));
        dueThrow(g, INDEX, () -> g.hasType(40));
        int wide = add(g, "^z.zabcdefghijklmnopqrstuvwxy(^x.x)");
        due(true, g.hasType(wide));
    }

    private static void promise33() {
        due("a", typeOf("x"));
        due(">aa", typeOf("^x.x"));
        due(">a>ba", typeOf("^x.^y.x"));
        due(">>a>bc>>ab>ac", typeOf("^x.^y.^z.xz(yz)"));
        due(">>aa>aa", typeOf("^f.^x.f(fx)"));
        due("a", typeOf("xy"));
        due(">>ab>ab", typeOf("^x.^y.xy"));
        due(">>>aabb", typeOf("^f.f(^x.x)"));
        due(">ab", typeOf("^x.yx"));
        due(">a>>abb", typeOf("^x.^y.yx"));
        due(">ab", typeOf("^x.z(yx)"));
        Boehmgarth g = new Boehmgarth();
        int t = add(g, "^x.x");
        dueThrow(g, NO_ELEMENT, () -> g.typeAt(t, 3));
        dueThrow(g, NO_ELEMENT, () -> g.typeAt(t, -1));
        dueThrow(g, INDEX, () -> g.typeAt(1, -1));
        int none = add(g, "xx");
        dueThrow(g, UNSUPPORTED, () -> g.typeAt(none, -1));
        int letters = add(g, "^z.zabcdefghijklmnopqrstuvwxy(^x.x)");
        dueThrow(g, UNSUPPORTED, () -> g.typeAt(letters, 0));
        int most = add(g, "^z.zabcdefghijklmnopqrstuvwxy");
        due('z', g.typeAt(most, 51));
        due('z', g.typeAt(most, 52));
        dueThrow(g, NO_ELEMENT, () -> g.typeAt(most, 53));
        // A triple has a type of 6 signs and three times those of what is in it, a pair one of 5 and two times those.
        int triple = add(g, "^b.^z.zbbb");
        int pair = add(g, "^b.^z.zbb");
        int fit = g.put(g.put(add(g, "t(d(t(d(da))))"), 't', triple), 'd', pair);
        due('>', g.typeAt(fit, 0));
        due('a', g.typeAt(fit, 10));
        due('b', g.typeAt(fit, 13));
        due(g.typeAt(fit, 397), g.typeAt(fit, 398));
        dueThrow(g, NO_ELEMENT, () -> g.typeAt(fit, 399));
        // Two signs more.
        int great = g.abstraction(fit, 'a');
        dueThrow(g, UNSUPPORTED, () -> g.typeAt(great, 0));
        dueThrow(g, UNSUPPORTED, () -> g.typeAt(great, -1));
        due(true, g.hasType(great));
    }

    private static void promise34() {
        Boehmgarth g = new Boehmgarth();
        due(0, g.arguments(add(g, "x")));
        due(1, g.arguments(add(g, "^x.x")));
        due(3, g.arguments(add(g, "^x.^y.^z.xz(yz)")));
        due(1, g.arguments(add(g, "^f.f(^x.^y.^z.x)")));
        due(0, g.arguments(add(g, "(^x.x)y")));
        due(2, g.arguments(add(g, "(^x.x)(^x.^y.x)")));
        due(2, g.arguments(g.number(7)));
        int none = add(g, "xx");
        dueThrow(g, UNSUPPORTED, () -> g.arguments(none));
        int letters = add(g, "^z.zabcdefghijklmnopqrstuvwxy(^x.x)");
        dueThrow(g, UNSUPPORTED, () -> g.arguments(letters));
        dueThrow(g, INDEX, () -> g.arguments(9));
    }

    private static void promise35() {
        Boehmgarth g = new Boehmgarth();
        due(1, g.combinators(add(g, "x")));
        due(1, g.combinators(add(g, "^x.x")));
        due(9, g.combinators(add(g, "^x.^y.xyz")));
        due(5, g.combinators(add(g, "^x.xx")));
        dueThrow(g, INDEX, () -> g.combinators(4));
        Boehmgarth h = new Boehmgarth();
        int great = add(h, "^a.^b.^c.^d.^e.^f.^g.^h.^i.hgfedcba(abcdefgh)(hgfedcba)");
        dueThrow(h, UNSUPPORTED, () -> h.combinators(great));
        String half = "xxxxxxxxxxxxxxxxxxxxxxxxxxxxxxxxxxxxxxxxxxxxxxxx";
        int first = add(h, half + "xx");
        int most = h.abstraction(h.apply(first, add(h, half + "xy")), 'x');
        due(399, h.combinators(most));
        int more = h.abstraction(h.apply(first, add(h, half + "yy")), 'x');
        dueThrow(h, UNSUPPORTED, () -> h.combinators(more));
        // 399 signs again, but 401 on the way.
        int small = add(h, "^x.^y.yxzyyxzyzxzzyyyzzyzzyzxzyzyzzyxxy");
        due(399, h.combinators(small));
        int way = h.abstraction(h.apply(small, add(h, "w")), 'w');
        dueThrow(h, UNSUPPORTED, () -> h.combinators(way));
        h.eta(way);
        due(399, h.combinators(way));
    }

    private static void promise36() {
        due("x", combinatorsOf("x"));
        due("I", combinatorsOf("^x.x"));
        due("K", combinatorsOf("^x.^y.x"));
        due("@KI", combinatorsOf("^x.^y.y"));
        due("@@SII", combinatorsOf("^x.xx"));
        due("f", combinatorsOf("^x.fx"));
        due("@Kf", combinatorsOf("^x.f"));
        due("@K@fg", combinatorsOf("^x.fg"));
        due("@@S@Kf@@SII", combinatorsOf("^x.f(xx)"));
        due("S", combinatorsOf("^x.^y.^z.xz(yz)"));
        due("@@S@@SI@KaI", combinatorsOf("^x.xax"));
        due("@@SS@KI", combinatorsOf("^x.^y.xy(y)"));
        due("@@SS@K@Kz", combinatorsOf("^x.^y.xyz"));
        Boehmgarth g = new Boehmgarth();
        int t = add(g, "^x.xx");
        dueThrow(g, NO_ELEMENT, () -> g.combinatorAt(t, 5));
        dueThrow(g, NO_ELEMENT, () -> g.combinatorAt(t, -1));
        dueThrow(g, INDEX, () -> g.combinatorAt(1, -1));
        int great = add(g, "^a.^b.^c.^d.^e.^f.^g.^h.^i.hgfedcba(abcdefgh)(hgfedcba)");
        dueThrow(g, UNSUPPORTED, () -> g.combinatorAt(great, -1));
    }

    private static void promise37() {
        Boehmgarth g = new Boehmgarth();
        String[] texts = {"x", "^x.x", "(^x.x)a", "(^x.xx)(^y.y)", "(^x.xx)((^y.y)(^z.z))", "(^x.y)(" + OMEGA + ")",
            "(^x.x(xa))((^y.y)(^z.z))", "x((^y.y)a)", "^u.(^x.x)a", "(^f.f(fa))(^x.x)", "(^x.xx)((^y.y)a)"};
        int[] byName = {0, 0, 1, 2, 4, 1, 5, 0, 0, 3, 2};
        int[] byNeed = {0, 0, 1, 2, 3, 1, 4, 0, 0, 3, 2};
        for (int i = 0; i < texts.length; i++) {
            int term = add(g, texts[i]);
            due(texts[i] + byName[i], texts[i] + g.betas(term, false));
            due(texts[i] + byNeed[i], texts[i] + g.betas(term, true));
        }
        int omega = add(g, OMEGA);
        dueThrow(g, UNSUPPORTED, () -> g.betas(omega, false));
        dueThrow(g, UNSUPPORTED, () -> g.betas(omega, true));
        dueThrow(g, INDEX, () -> g.betas(-1, true));
        Boehmgarth h = new Boehmgarth();
        int identity = add(h, "^x.x");
        due(22, h.betas(h.apply(h.apply(h.number(20), identity), add(h, "a")), false));
        // By name, 1 beta and 9 times 2 and 9 of the number; by need, the number gets the identity just once.
        int nine = h.apply(h.number(9), identity);
        int most = h.apply(add(h, "^f.f(f(f(f(f(f(f(f(fa))))))))"), nine);
        due(100, h.betas(most, false));
        due(92, h.betas(most, true));
        int more = h.apply(identity, most);
        dueThrow(h, UNSUPPORTED, () -> h.betas(more, false));
        due(93, h.betas(more, true));
        due(0, h.headArguments(most));
        dueThrow(h, UNSUPPORTED, () -> h.headArguments(more));
    }

    private static void promise38() {
        Boehmgarth g = new Boehmgarth();
        due(0, g.headArguments(add(g, "x")));
        due(2, g.headArguments(add(g, "xab")));
        due(-1, g.headArguments(add(g, "^x.xab")));
        due(2, g.headArguments(add(g, "(^x.xa)(yb)")));
        due(-1, g.headArguments(add(g, "(^x.^y.x)a")));
        due(2, g.headArguments(add(g, "(^x.xx)(ya)")));
        int omega = add(g, OMEGA);
        dueThrow(g, UNSUPPORTED, () -> g.headArguments(omega));
        dueThrow(g, INDEX, () -> g.headArguments(7));
        Boehmgarth h = new Boehmgarth();
        due(7 + 8 + 15, h.headArguments(add(h, "(^x.x(xx)(xx)(xx)xxxx)((^y.yyyyyyyyy)(abbbbbbbbbbbbbbb))")));
        // More arguments than a term can hold.
        int forty = add(h, "^x.xbbbbbbbbbbbbbbbbbbbbbbbbbbbbbbbbbbbbbbbb");
        due(800, h.headArguments(h.apply(h.apply(h.number(20), forty), add(h, "a"))));
    }

    private static void promise39() {
        Boehmgarth g = new Boehmgarth();
        due(0L, g.checksum());
        add(g, "x");
        due(120L * 31, g.checksum());
        add(g, "^y.y");
        due(((120L * 31 * 31 + '^') * 31 + 'A') * 31, g.checksum());
        type(g, "xyz");
        due(((120L * 31 * 31 + '^') * 31 + 'A') * 31, g.checksum());
        Boehmgarth h = new Boehmgarth();
        h.number(20);
        long sum = 0;
        for (int i = 0; i < 43; i++) {
            sum = sum * 31 + h.signAt(0, i);
        }
        due(sum * 31, h.checksum());
    }

    private static void promise40() {
        Boehmgarth g = new Boehmgarth();
        due(0, g.terms());
        add(g, "x");
        g.number(2);
        due(2, g.terms());
        g.copy(0, 1);
        due(2, g.terms());
        due(40, full().terms());
    }

    private static void promise41() {
        Boehmgarth g = new Boehmgarth();
        dueThrow(g, ARITHMETIC, () -> g.normalShare());
        add(g, "x");
        due(1f, g.normalShare());
        add(g, "x((^x.x)a)");
        add(g, "^x.(^x.x)a");
        due(1f / 3f, g.normalShare());
    }

    private static void promise42() {
        Boehmgarth g = new Boehmgarth();
        dueThrow(g, ARITHMETIC, () -> g.meanSize());
        add(g, "x");
        due(1d, g.meanSize());
        add(g, "xx");
        add(g, "xx");
        due(7d / 3d, g.meanSize());
    }

    private static void promise43() {
        Boehmgarth g = new Boehmgarth();
        due(true, g.isSound());
        int t = add(g, "(^x.^y.xy)y");
        due(true, g.isSound());
        g.step(t, 'n');
        due(true, g.isSound());
        due(true, full().isSound());
    }

    private static void run(int number, Runnable test) {
        promise = number;
        test.run();
    }

    private static void runWords() {
        run(1, PromiseTests::promise1);
        run(2, PromiseTests::promise2);
        run(3, PromiseTests::promise3);
        run(4, PromiseTests::promise4);
        run(5, PromiseTests::promise5);
        run(6, PromiseTests::promise6);
        run(7, PromiseTests::promise7);
        run(8, PromiseTests::promise8);
        run(9, PromiseTests::promise9);
        run(10, PromiseTests::promise10);
        run(11, PromiseTests::promise11);
        run(12, PromiseTests::promise12);
        run(13, PromiseTests::promise13);
        run(14, PromiseTests::promise14);
        run(15, PromiseTests::promise15);
        run(16, PromiseTests::promise16);
    }

    private static void runReductions() {
        run(17, PromiseTests::promise17);
        run(18, PromiseTests::promise18);
        run(19, PromiseTests::promise19);
        run(20, PromiseTests::promise20);
        run(21, PromiseTests::promise21);
        run(22, PromiseTests::promise22);
        run(23, PromiseTests::promise23);
        run(24, PromiseTests::promise24);
        run(25, PromiseTests::promise25);
        run(26, PromiseTests::promise26);
    }

    private static void runMeanings() {
        run(27, PromiseTests::promise27);
        run(28, PromiseTests::promise28);
        run(29, PromiseTests::promise29);
        run(30, PromiseTests::promise30);
        run(31, PromiseTests::promise31);
        run(32, PromiseTests::promise32);
        run(33, PromiseTests::promise33);
        run(34, PromiseTests::promise34);
        run(35, PromiseTests::promise35);
        run(36, PromiseTests::promise36);
        run(37, PromiseTests::promise37);
        run(38, PromiseTests::promise38);
        run(39, PromiseTests::promise39);
        run(40, PromiseTests::promise40);
        run(41, PromiseTests::promise41);
        run(42, PromiseTests::promise42);
        run(43, PromiseTests::promise43);
    }

    public static void main(String[] args) {
        runWords();
        runReductions();
        runMeanings();
        System.out.println(wrong == 0 ? "all " + asked + " answers are as promised" : wrong + " answers are not as promised");
        if (wrong != 0) {
            System.exit(1);
        }
    }
}
