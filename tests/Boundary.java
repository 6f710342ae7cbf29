import java.lang.reflect.InvocationTargetException;
import java.lang.reflect.Method;
import java.util.Arrays;
import java.util.Comparator;
import java.util.NoSuchElementException;

/**
 * What the tests of the boundary cases share: garths that are made anew for each call, calls that are refused and
 * change nothing, and terms of a given size or nest. Each test is a method of its own, told by its name.
 */
final class Boundary {
    static final Class<?> INDEX = IndexOutOfBoundsException.class;
    static final Class<?> ARGUMENT = IllegalArgumentException.class;
    static final Class<?> STATE = IllegalStateException.class;
    static final Class<?> UNSUPPORTED = UnsupportedOperationException.class;
    static final Class<?> NO_ELEMENT = NoSuchElementException.class;
    static final Class<?> ARITHMETIC = ArithmeticException.class;

    static final String OMEGA = "(^x.xx)(^x.xx)";

    /** Its tree has 80 signs to the depth 3, and too many to the depth 4. */
    static final String THREEFOLD = "(^x.^f.f(xxf)(xxf)(xxf))(^x.^f.f(xxf)(xxf)(xxf))";

    static final int[] NO_NUMBERS = {-1, 40, Integer.MIN_VALUE, Integer.MAX_VALUE};

    private static int asked;
    private static int wrong;
    private static String test = "";

    private Boundary() {
    }

    interface Making {
        Boehmgarth make();
    }

    interface Asking {
        Object ask(Boehmgarth g);
    }

    // ---- what is due

    static void due(Object want, Object got) {
        asked++;
        if (!want.equals(got)) {
            fail("answered " + got + ", due is " + want);
        }
    }

    private static void fail(String what) {
        wrong++;
        StringBuilder lines = new StringBuilder();
        for (StackTraceElement at : new Throwable().getStackTrace()) {
            if (!at.getClassName().equals("Boundary") && at.getFileName() != null
                    && at.getFileName().endsWith("Boundaries.java")) {
                lines.append(' ').append(at.getLineNumber());
            }
        }
        System.out.println(test + ", line" + lines + ": " + what);
    }

    /** On a new garth the call throws just this, and the same questions answer the same before and behind it. */
    static void refused(Class<?> want, Making making, Asking call) {
        asked++;
        Asking[] harmless = {Boundary::figures, Boundary::meanings};
        for (Asking questions : harmless) {
            Boehmgarth g = making.make();
            Object before = questions.ask(g);
            thrown(want, g, call);
            dueSame(before, questions.ask(g));
        }
        Asking[] others = {Boundary::lastSigns, Boundary::addings};
        for (Asking questions : others) {
            Boehmgarth g = making.make();
            thrown(want, g, call);
            dueSame(questions.ask(making.make()), questions.ask(g));
        }
    }

    private static void thrown(Class<?> want, Boehmgarth g, Asking call) {
        String got = answer(g, call);
        if (!got.equals(want.getName())) {
            fail("answered " + got + ", due is " + want.getName());
        }
    }

    private static void dueSame(Object before, Object behind) {
        if (!before.equals(behind)) {
            fail("a call that is refused made " + behind + " of " + before);
        }
    }

    static String answer(Boehmgarth g, Asking call) {
        try {
            return String.valueOf(call.ask(g));
        } catch (RuntimeException e) {
            return e.getClass().getName();
        }
    }

    // ---- questions

    private static String answers(Boehmgarth g, Asking... calls) {
        StringBuilder all = new StringBuilder();
        for (Asking call : calls) {
            all.append(answer(g, call)).append(' ');
        }
        return all.toString();
    }

    private static String figures(Boehmgarth g) {
        StringBuilder all = new StringBuilder();
        all.append(answers(g, Boehmgarth::terms, Boehmgarth::checksum, Boehmgarth::fault, Boehmgarth::isSound,
                Boehmgarth::normalShare, Boehmgarth::meanSize));
        for (int i = 0; i < g.terms(); i++) {
            int term = i;
            all.append(answers(g, x -> x.size(term), x -> x.redexes(term), x -> x.isClosed(term)));
        }
        return all.toString();
    }

    private static String meanings(Boehmgarth g) {
        int last = last(g);
        StringBuilder all = new StringBuilder();
        for (int term : new int[] {0, last}) {
            all.append(answers(g, x -> x.isNormal(term, 'n'), x -> x.isNormal(term, 'a'), x -> x.isNormal(term, 'h'),
                    x -> x.isNormal(term, 'w'), x -> x.isNormal(term, 'p'), x -> x.best(term), x -> x.isSolved(term)));
            all.append(answers(g, x -> x.treeSigns(term, 0), x -> x.treeSigns(term, 1), x -> x.treeSigns(term, 4),
                    x -> x.treeAt(term, 2, 1), x -> x.unlikeAt(term, 0, 4), x -> x.separated(term, last)));
            all.append(answers(g, x -> x.hasType(term), x -> x.typeAt(term, 0), x -> x.arguments(term),
                    x -> x.combinators(term), x -> x.combinatorAt(term, 0), x -> x.betas(term, false),
                    x -> x.betas(term, true), x -> x.headArguments(term)));
            all.append(answers(g, x -> x.numberOf(term), x -> x.places(term, 'x'), x -> x.areSame(term, last),
                    x -> x.redexAt(term, 0), x -> x.residuals(term, 0, 1), x -> x.joins(term, 0, 1)));
        }
        return all.toString();
    }

    private static String lastSigns(Boehmgarth g) {
        return g.terms() == 0 ? "" : signs(g, last(g));
    }

    /** What is in the buffer, and where the next term comes to stand. */
    private static String addings(Boehmgarth g) {
        return answers(g, Boehmgarth::fault, x -> x.type('x'), Boehmgarth::term, Boehmgarth::clear, x -> x.number(1),
                Boehmgarth::terms, Boehmgarth::checksum, Boehmgarth::fault);
    }

    // ---- garths and terms

    static void type(Boehmgarth g, String text) {
        for (char sign : text.toCharArray()) {
            g.type(sign);
        }
    }

    static int add(Boehmgarth g, String text) {
        type(g, text);
        return g.term();
    }

    static Boehmgarth of(String... texts) {
        Boehmgarth g = new Boehmgarth();
        for (String text : texts) {
            add(g, text);
        }
        return g;
    }

    /** A garth with a buffer. */
    static Boehmgarth typed(String text) {
        Boehmgarth g = new Boehmgarth();
        type(g, text);
        return g;
    }

    /** These terms, and the number 0 behind them, until there are so many. */
    static Boehmgarth filledTo(int terms, Boehmgarth g) {
        while (g.terms() < terms) {
            g.number(0);
        }
        return g;
    }

    static Boehmgarth full() {
        Boehmgarth g = new Boehmgarth();
        for (int i = 0; i < 40; i++) {
            g.number(0);
        }
        return g;
    }

    static String times(int times, String text) {
        return text.repeat(times);
    }

    static int last(Boehmgarth g) {
        return g.terms() - 1;
    }

    /** Adds x applied to x, and so on, so many letters, up to 100. */
    static int addLetters(Boehmgarth g, int letters) {
        if (letters <= 50) {
            return add(g, times(letters, "x"));
        }
        int first = addLetters(g, letters - letters / 2);
        return g.apply(first, letters % 2 == 0 ? first : addLetters(g, letters / 2));
    }

    /** Adds a term of a size, 1 to 200, of letters x; that of an even size is an abstraction. */
    static int addOfSize(Boehmgarth g, int size) {
        int letters = addLetters(g, (size + 1) / 2);
        return size % 2 == 1 ? letters : g.abstraction(letters, 'q');
    }

    /** A garth whose last term is of a size. */
    static Boehmgarth ofSize(int size) {
        Boehmgarth g = new Boehmgarth();
        addOfSize(g, size);
        return g;
    }

    /** Adds so many abstractions, 0 to 25, inside one another, with the free letter x inside. */
    static int addNested(Boehmgarth g, int nest) {
        if (nest <= 13) {
            return add(g, times(nest, "^a.") + "x");
        }
        return g.put(addNested(g, 13), 'x', addNested(g, nest - 13));
    }

    /** A garth whose last term has so many abstractions inside one another. */
    static Boehmgarth ofNest(int nest) {
        Boehmgarth g = new Boehmgarth();
        addNested(g, nest);
        return g;
    }

    static String signs(Boehmgarth g, int term) {
        StringBuilder signs = new StringBuilder();
        int size = g.size(term);
        for (int i = 0; i < size; i++) {
            signs.append(g.signAt(term, i));
        }
        return signs.toString();
    }

    static String signsOf(String text) {
        Boehmgarth g = of(text);
        return signs(g, 0);
    }

    static String tree(Boehmgarth g, int term, int depth) {
        StringBuilder signs = new StringBuilder();
        int most = g.treeSigns(term, depth);
        for (int i = 0; i < most; i++) {
            signs.append(g.treeAt(term, depth, i));
        }
        return signs.toString();
    }

    static String treeOf(String text, int depth) {
        return tree(of(text), 0, depth);
    }

    // ---- all tests of a class

    static void run(Class<?> tests) {
        Method[] methods = tests.getDeclaredMethods();
        Arrays.sort(methods, Comparator.comparing(Method::getName));
        int count = 0;
        for (Method method : methods) {
            if (method.getName().matches("(p\\d\\d|all)[A-Z].*") && method.getParameterCount() == 0) {
                test = method.getName();
                count++;
                run(method);
            }
        }
        System.out.println(wrong == 0 ? count + " boundary cases hold in " + asked + " answers" : wrong + " answers are wrong");
        if (wrong != 0 || count == 0) {
            System.exit(1);
        }
    }

    private static void run(Method method) {
        try {
            method.invoke(null);
        } catch (InvocationTargetException e) {
            fail("ended by " + e.getCause() + " " + Arrays.asList(e.getCause().getStackTrace()));
        } catch (IllegalAccessException e) {
            fail("cannot be run");
        }
    }
}
