/** The boundary cases of the promises 1 to 16: words and terms. */
public final class WordBoundaries {
    private static final String FAULTY = "^x";

    // ---- a new object

    static void p01HasNoTermsAndAnEmptyBuffer() {
        Boehmgarth g = new Boehmgarth();
        Boundary.due(0, g.terms());
        Boundary.due(0L, g.checksum());
        Boundary.due(true, g.isSound());
        Boundary.due(0, g.fault());
        Boundary.due(0, g.clear());
        Boundary.due(0, g.number(0));
    }

    static void p01HasNoTermToAskFor() {
        Boundary.Asking[] calls = {g -> g.apply(0, 0), g -> g.abstraction(0, 'x'), g -> g.put(0, 'x', 0),
            g -> g.copy(0, 0), g -> g.size(0), g -> g.places(0, 'x'), g -> g.isClosed(0), g -> g.areSame(0, 0),
            g -> g.signAt(0, 0), g -> g.numberOf(0), g -> g.redexes(0), g -> g.redexAt(0, 0), g -> g.contract(0, 0),
            g -> g.residuals(0, 0, 0), g -> g.joins(0, 0, 0), g -> g.step(0, 'n'), g -> g.isNormal(0, 'n'),
            g -> g.reduce(0, 'n', 1), g -> g.best(0), g -> g.eta(0), g -> g.isSolved(0), g -> g.treeSigns(0, 0),
            g -> g.treeAt(0, 0, 0), g -> g.unlikeAt(0, 0, 0), g -> g.separated(0, 0), g -> g.hasType(0),
            g -> g.typeAt(0, 0), g -> g.arguments(0), g -> g.combinators(0), g -> g.combinatorAt(0, 0),
            g -> g.betas(0, true), g -> g.betas(0, false), g -> g.headArguments(0)};
        for (Boundary.Asking call : calls) {
            Boundary.refused(Boundary.INDEX, Boehmgarth::new, call);
            Boundary.refused(Boundary.INDEX, () -> Boundary.typed("(x"), call);
        }
    }

    static void p01ObjectsHaveTheirOwnTermsAndBuffers() {
        Boehmgarth one = Boundary.of("x", "y");
        Boundary.type(one, "z");
        Boehmgarth other = new Boehmgarth();
        Boundary.due(0, other.terms());
        Boundary.due(0, other.clear());
        Boundary.due(1, one.clear());
    }

    // ---- type

    static void p02TakesTheFirstAndTheLastLetterAndTheFourSigns() {
        Boehmgarth g = new Boehmgarth();
        String allowed = "abcdefghijklmnopqrstuvwxyz^.()";
        for (int i = 0; i < allowed.length(); i++) {
            Boundary.due(i + 1, g.type(allowed.charAt(i)));
        }
    }

    static void p02RefusesTheSignsNextToThem() {
        for (char sign : "`{]_'*-/@AZ[~ ?0\0\uffff\u0161\u0128\u00e1".toCharArray()) {
            Boundary.refused(Boundary.ARGUMENT, Boehmgarth::new, g -> g.type(sign));
        }
    }

    static void p02Takes60SignsAndNotTheNext() {
        for (char sign : "az^.()".toCharArray()) {
            Boundary.due(60, Boundary.typed(Boundary.times(59, "x")).type(sign));
            Boundary.refused(Boundary.STATE, () -> Boundary.typed(Boundary.times(60, "x")), g -> g.type(sign));
        }
    }

    static void p02ToldFirstIsTheSignThenTheFullBuffer() {
        Boundary.refused(Boundary.ARGUMENT, () -> Boundary.typed(Boundary.times(60, "x")), g -> g.type('X'));
        Boundary.refused(Boundary.ARGUMENT, () -> Boundary.typed(Boundary.times(59, "x")), g -> g.type('X'));
    }

    static void p02CountsFromOneBehindClearAndTerm() {
        Boehmgarth g = Boundary.typed(Boundary.times(60, "x"));
        g.clear();
        Boundary.due(1, g.type('x'));
        g.term();
        Boundary.due(1, g.type('x'));
    }

    static void p02NeedsNoRoomForTerms() {
        Boundary.due(1, Boundary.full().type('x'));
    }

    // ---- clear

    static void p03ToldIsAnEmptyAndAFullBuffer() {
        Boehmgarth g = new Boehmgarth();
        Boundary.due(0, g.clear());
        Boundary.type(g, "x");
        Boundary.due(1, g.clear());
        Boundary.type(g, Boundary.times(60, "("));
        Boundary.due(60, g.clear());
        Boundary.due(0, g.clear());
        Boundary.due(0, g.fault());
    }

    static void p03LeavesTheTerms() {
        Boehmgarth g = Boundary.of("xy");
        long before = g.checksum();
        Boundary.type(g, "zz");
        g.clear();
        Boundary.due(before, g.checksum());
        Boundary.due(1, g.terms());
    }

    // ---- fault

    private static void fault(String text, int place) {
        Boehmgarth g = Boundary.typed(text);
        Boundary.due(text + " " + place, text + " " + g.fault());
        Boundary.due(text + " " + place, text + " " + g.fault());
        Boundary.due(text.length(), g.clear());
    }

    static void p04AnEmptyBufferEndsTooEarly() {
        fault("", 0);
    }

    static void p04ATextThatEndsTooEarlyIsToldByItsLength() {
        String[] texts = {"^", "^x", "^x.", "(", "(x", "((x)", "x(", "x^", "x^y", "x^y.", "(^x.x", "^x.^y.", "x(y^z.z"};
        for (String text : texts) {
            fault(text, text.length());
        }
    }

    static void p04ATextOf60SignsThatEndsTooEarly() {
        fault(Boundary.times(60, "("), 60);
        fault(Boundary.times(59, "x") + "^", 60);
        fault(Boundary.times(58, "x") + "^x", 60);
        fault(Boundary.times(20, "^x."), 60);
        fault("(" + Boundary.times(59, "x"), 60);
    }

    static void p04ATextOf60SignsThatIsATerm() {
        fault(Boundary.times(60, "x"), -1);
        fault(Boundary.times(19, "^a.") + "xyz", -1);
        fault(Boundary.times(29, "(") + "xy" + Boundary.times(29, ")"), -1);
    }

    static void p04TheFirstSignCanBeTheFault() {
        fault(")", 0);
        fault(".", 0);
        fault(").", 0);
        fault(".x", 0);
    }

    static void p04TheLastOf60SignsCanBeTheFault() {
        fault(Boundary.times(59, "x") + ")", 59);
        fault(Boundary.times(59, "x") + ".", 59);
        fault(Boundary.times(19, "^a.") + "^a)", 59);
    }

    static void p04TheFirstOfSeveralFaultsIsTold() {
        fault("x.y.z", 1);
        fault("x))", 1);
        fault("()()", 1);
        fault("^^.", 1);
    }

    static void p04ABracketIsNotEmptyAndNotClosedTwice() {
        fault("()", 1);
        fault("x()", 2);
        fault("(x)", -1);
        fault("(x))", 3);
        fault("((x)", 4);
        fault("((x))", -1);
        fault("(^x.)", 4);
        fault("(x)(y)", -1);
    }

    static void p04AnAbstractionNeedsALetterAPointAndATerm() {
        fault("^.", 1);
        fault("^^", 1);
        fault("^(", 1);
        fault("^)", 1);
        fault("^xy", 2);
        fault("^x^", 2);
        fault("^x(", 2);
        fault("^x)", 2);
        fault("^x..", 3);
        fault("^x.)", 3);
        fault("^a.z", -1);
        fault("^z.a", -1);
    }

    static void p04APointStandsNowhereElse() {
        fault("x.", 1);
        fault("(.", 1);
        fault("(x).", 3);
        fault("^x.x.", 4);
    }

    static void p04IsAskedOfAFullGarthToo() {
        Boehmgarth g = Boundary.full();
        Boundary.type(g, "x");
        Boundary.due(-1, g.fault());
    }

    // ---- term

    static void p05NumbersTermsFrom0To39() {
        Boehmgarth g = new Boehmgarth();
        for (int i = 0; i < 40; i++) {
            Boundary.due(i, Boundary.add(g, "x"));
        }
        Boundary.due(40, g.terms());
    }

    static void p05RefusesThe41stAndKeepsTheBuffer() {
        Boundary.Making making = () -> {
            Boehmgarth g = Boundary.full();
            Boundary.type(g, "xy");
            return g;
        };
        Boundary.refused(Boundary.STATE, making, Boehmgarth::term);
        Boehmgarth g = making.make();
        Boundary.answer(g, Boehmgarth::term);
        Boundary.due(2, g.clear());
    }

    static void p05RefusesAnEmptyBuffer() {
        Boundary.refused(Boundary.UNSUPPORTED, Boehmgarth::new, Boehmgarth::term);
        Boundary.refused(Boundary.UNSUPPORTED, () -> Boundary.of("x"), Boehmgarth::term);
    }

    static void p05RefusesWhatIsNoTermAndKeepsTheBuffer() {
        for (String text : new String[] {"^", "^x", "^x.", "(x", "x)", "()", "x.", Boundary.times(60, "(")}) {
            Boundary.refused(Boundary.UNSUPPORTED, () -> Boundary.typed(text), Boehmgarth::term);
            Boehmgarth g = Boundary.typed(text);
            Boundary.answer(g, Boehmgarth::term);
            Boundary.due(text.length(), g.clear());
        }
    }

    static void p05ToldFirstIsWhatIsNoTermThenThe40Terms() {
        Boundary.refused(Boundary.UNSUPPORTED, Boundary::full, Boehmgarth::term);
        Boundary.refused(Boundary.UNSUPPORTED, () -> {
            Boehmgarth g = Boundary.full();
            Boundary.type(g, FAULTY);
            return g;
        }, Boehmgarth::term);
    }

    static void p05ItIsEmptyThen() {
        Boehmgarth g = Boundary.of("xyz");
        Boundary.due(0, g.fault());
        Boundary.due(0, g.clear());
    }

    static void p05TakesTheShortestAndTheLongestTexts() {
        Boundary.due("x", Boundary.signsOf("x"));
        Boundary.due(Boundary.times(59, "@") + Boundary.times(60, "x"), Boundary.signsOf(Boundary.times(60, "x")));
        Boundary.due(Boundary.times(19, "^") + "@@xyz", Boundary.signsOf(Boundary.times(19, "^a.") + "xyz"));
        Boundary.due("@xy", Boundary.signsOf(Boundary.times(29, "(") + "xy" + Boundary.times(29, ")")));
        Boundary.due(Boundary.times(19, "^") + "@@SRA",
                Boundary.signsOf("^a.^b.^c.^d.^e.^f.^g.^h.^i.^j.^k.^l.^m.^n.^o.^p.^q.^r.^s.abs"));
    }

    static void p05TheFirstAndTheLastLetterAreVariables() {
        Boundary.due("@az", Boundary.signsOf("az"));
        Boundary.due("^@Az", Boundary.signsOf("^a.az"));
        Boundary.due("^@aA", Boundary.signsOf("^z.az"));
    }

    static void p05AnAbstractionGoesAsFarAsItGoes() {
        Boundary.due("^@@AyA", Boundary.signsOf("^x.xyx"));
        Boundary.due("@@^Ayx", Boundary.signsOf("(^x.x)yx"));
        Boundary.due("@^@Ayx", Boundary.signsOf("(^x.xy)x"));
        Boundary.due("@^@^@ABAx", Boundary.signsOf("(^x.(^y.yx)x)x"));
    }

    static void p05PartsSideBySideAreAppliedToTheLeftFirst() {
        Boundary.due("@@@wxyz", Boundary.signsOf("wxyz"));
        Boundary.due("@w@x@yz", Boundary.signsOf("w(x(yz))"));
        Boundary.due("@@wx@yz", Boundary.signsOf("(wx)(yz)"));
    }

    static void p05AnAbstractionCanBeTheLastPartWithoutBrackets() {
        Boundary.due("@x^A", Boundary.signsOf("x^y.y"));
        Boundary.due("@@ab^@A@@@aA^AA", Boundary.signsOf("ab^c.c(ac(^d.d)c)"));
        Boundary.due("@x^@A^@AB", Boundary.signsOf("x^y.y^z.zy"));
        Boundary.due("@@x^Ay", Boundary.signsOf("x(^y.y)y"));
    }

    static void p05ALetterIsBoundByTheNearestAbstractionOfIt() {
        Boundary.due("^^A", Boundary.signsOf("^x.^x.x"));
        Boundary.due("^^^@BA", Boundary.signsOf("^y.^x.^y.xy"));
        Boundary.due("^@@^AAx", Boundary.signsOf("^y.(^x.x)yx"));
        Boundary.due("@^Ax", Boundary.signsOf("(^x.x)x"));
    }

    // ---- number

    static void p06TakesEachFrom0To20() {
        for (int i = 0; i <= 20; i++) {
            Boehmgarth g = new Boehmgarth();
            Boundary.due(0, g.number(i));
            Boundary.due("^^" + Boundary.times(i, "@B") + "A", Boundary.signs(g, 0));
        }
    }

    static void p06RefusesMinus1And21() {
        for (int number : new int[] {-1, 21, 22, 40, Integer.MIN_VALUE, Integer.MAX_VALUE}) {
            Boundary.refused(Boundary.ARGUMENT, Boehmgarth::new, g -> g.number(number));
            Boundary.refused(Boundary.ARGUMENT, () -> Boundary.of("xy"), g -> g.number(number));
        }
    }

    static void p06AddsThe40thTermAndNotThe41st() {
        Boehmgarth g = Boundary.filledTo(39, new Boehmgarth());
        Boundary.due(39, g.number(20));
        Boundary.refused(Boundary.STATE, Boundary::full, x -> x.number(0));
        Boundary.refused(Boundary.STATE, Boundary::full, x -> x.number(20));
    }

    static void p06ToldFirstIsTheNumberThenThe40Terms() {
        Boundary.refused(Boundary.ARGUMENT, Boundary::full, g -> g.number(-1));
        Boundary.refused(Boundary.ARGUMENT, Boundary::full, g -> g.number(21));
    }

    static void p06LeavesTheBuffer() {
        Boehmgarth g = Boundary.typed("xy");
        g.number(1);
        Boundary.due(2, g.clear());
    }

    // ---- apply

    private static Boehmgarth sizes(int first, int second) {
        Boehmgarth g = Boundary.of("u", "v");
        int one = Boundary.addOfSize(g, first);
        int other = Boundary.addOfSize(g, second);
        g.copy(one, 0);
        g.copy(other, 1);
        return g;
    }

    static void p07Takes200SignsAndNot201() {
        int[][] fit = {{99, 100}, {100, 99}, {198, 1}, {1, 198}, {197, 2}, {2, 197}};
        for (int[] sizes : fit) {
            Boehmgarth g = sizes(sizes[0], sizes[1]);
            Boundary.due(200, g.size(g.apply(0, 1)));
            Boundary.refused(Boundary.UNSUPPORTED, () -> sizes(sizes[0] + 1, sizes[1]), x -> x.apply(0, 1));
            Boundary.refused(Boundary.UNSUPPORTED, () -> sizes(sizes[0], sizes[1] + 1), x -> x.apply(0, 1));
        }
        Boundary.refused(Boundary.UNSUPPORTED, () -> Boundary.ofSize(200), x -> x.apply(0, Boundary.last(x)));
        Boundary.refused(Boundary.UNSUPPORTED, () -> sizes(200, 200), x -> x.apply(0, 1));
        Boundary.refused(Boundary.UNSUPPORTED, () -> sizes(100, 1), x -> x.apply(0, 0));
        Boehmgarth same = sizes(99, 1);
        Boundary.due(199, same.size(same.apply(0, 0)));
    }

    static void p07TermsOfTheDeepestNestFit() {
        Boehmgarth g = Boundary.ofNest(25);
        int deep = Boundary.last(g);
        Boundary.due(53, g.size(g.apply(deep, deep)));
    }

    static void p07RefusesATermThatIsNotThereForEither() {
        for (int no : new int[] {-1, 1, 2, 40, Integer.MIN_VALUE, Integer.MAX_VALUE}) {
            Boundary.refused(Boundary.INDEX, () -> Boundary.of("x"), g -> g.apply(no, 0));
            Boundary.refused(Boundary.INDEX, () -> Boundary.of("x"), g -> g.apply(0, no));
            Boundary.refused(Boundary.INDEX, () -> Boundary.of("x"), g -> g.apply(no, no));
        }
    }

    static void p07TakesTheFirstTheLastAndTheSame() {
        Boehmgarth g = Boundary.of("x", "y");
        Boundary.due("@xy", Boundary.signs(g, g.apply(0, 1)));
        Boundary.due("@yx", Boundary.signs(g, g.apply(1, 0)));
        Boundary.due("@yy", Boundary.signs(g, g.apply(1, 1)));
        Boundary.due(5, g.apply(4, 4));
    }

    static void p07AddsThe40thTermAndNotThe41st() {
        Boundary.due(39, Boundary.filledTo(39, new Boehmgarth()).apply(38, 0));
        Boundary.refused(Boundary.STATE, Boundary::full, g -> g.apply(0, 39));
    }

    static void p07ToldFirstIsTheTermThenItsSizeThenThe40Terms() {
        for (int no : Boundary.NO_NUMBERS) {
            Boundary.refused(Boundary.INDEX, Boundary::full, g -> g.apply(no, 0));
            Boundary.refused(Boundary.INDEX, Boundary::full, g -> g.apply(0, no));
            Boundary.refused(Boundary.INDEX, () -> sizes(200, 200), g -> g.apply(0, no));
        }
        Boundary.refused(Boundary.UNSUPPORTED, () -> Boundary.filledTo(40, sizes(100, 100)), g -> g.apply(0, 1));
        Boundary.refused(Boundary.STATE, () -> Boundary.filledTo(40, sizes(100, 99)), g -> g.apply(0, 1));
    }

    // ---- abstraction

    static void p08Takes200SignsAndNot201() {
        Boehmgarth g = Boundary.ofSize(199);
        Boundary.due(200, g.size(g.abstraction(Boundary.last(g), 'x')));
        Boundary.refused(Boundary.UNSUPPORTED, () -> Boundary.ofSize(200), x -> x.abstraction(Boundary.last(x), 'x'));
        Boundary.refused(Boundary.UNSUPPORTED, () -> Boundary.ofSize(200), x -> x.abstraction(Boundary.last(x), 'a'));
    }

    static void p08Takes25AbstractionsInsideOneAnotherAndNot26() {
        Boehmgarth g = Boundary.ofNest(24);
        int deep = Boundary.last(g);
        Boundary.due(Boundary.times(25, "^") + "Y", Boundary.signs(g, g.abstraction(deep, 'x')));
        Boundary.due(Boundary.times(25, "^") + "x", Boundary.signs(g, g.abstraction(deep, 'y')));
        Boundary.refused(Boundary.UNSUPPORTED, () -> Boundary.ofNest(25), x -> x.abstraction(Boundary.last(x), 'x'));
        Boundary.refused(Boundary.UNSUPPORTED, () -> Boundary.ofNest(25), x -> x.abstraction(Boundary.last(x), 'b'));
    }

    private static Boehmgarth besides(int left, int right) {
        Boehmgarth g = Boundary.of("u");
        int one = Boundary.addNested(g, left);
        int other = Boundary.addNested(g, right);
        g.copy(g.apply(one, other), 0);
        return g;
    }

    static void p08TheDeeperSideCounts() {
        for (int side = 0; side < 2; side++) {
            int left = side == 0 ? 24 : 3;
            int right = side == 0 ? 3 : 24;
            Boehmgarth g = besides(left, right);
            // A letter and its abstractions on each side, the application, and one abstraction more.
            Boundary.due(25 + 4 + 1 + 1, g.size(g.abstraction(0, 'x')));
            int deeper = side;
            Boundary.refused(Boundary.UNSUPPORTED, () -> besides(left + 1 - deeper, right + deeper),
                    x -> x.abstraction(0, 'x'));
        }
    }

    static void p08TakesTheFirstAndTheLastLetterAndNotThoseNextToThem() {
        Boehmgarth g = Boundary.of("az");
        Boundary.due("^@Az", Boundary.signs(g, g.abstraction(0, 'a')));
        Boundary.due("^@aA", Boundary.signs(g, g.abstraction(0, 'z')));
        for (char letter : "`{AZ^@?.\0\uffff\u0161".toCharArray()) {
            Boundary.refused(Boundary.ARGUMENT, () -> Boundary.of("az"), x -> x.abstraction(0, letter));
        }
    }

    static void p08ALetterThatIsNotThereBindsNothing() {
        Boehmgarth g = Boundary.of("^x.xy");
        Boundary.due("^^@Ay", Boundary.signs(g, g.abstraction(0, 'x')));
        Boundary.due("^^@Ay", Boundary.signs(g, g.abstraction(0, 'z')));
        Boundary.due("^^@AB", Boundary.signs(g, g.abstraction(0, 'y')));
        Boundary.due("^@Ay", Boundary.signs(g, 0));
    }

    static void p08RefusesATermThatIsNotThere() {
        for (int no : new int[] {-1, 1, 40, Integer.MIN_VALUE, Integer.MAX_VALUE}) {
            Boundary.refused(Boundary.INDEX, () -> Boundary.of("x"), g -> g.abstraction(no, 'x'));
        }
    }

    static void p08AddsThe40thTermAndNotThe41st() {
        Boundary.due(39, Boundary.filledTo(39, new Boehmgarth()).abstraction(38, 'x'));
        Boundary.refused(Boundary.STATE, Boundary::full, g -> g.abstraction(39, 'x'));
    }

    static void p08ToldFirstIsTheTermThenTheLetterThenTheSizeThenThe40Terms() {
        Boundary.Making great = () -> Boundary.filledTo(40, ofSizeFirst(200));
        Boundary.refused(Boundary.INDEX, great, g -> g.abstraction(-1, 'X'));
        Boundary.refused(Boundary.INDEX, great, g -> g.abstraction(40, 'x'));
        Boundary.refused(Boundary.ARGUMENT, great, g -> g.abstraction(0, 'X'));
        Boundary.refused(Boundary.UNSUPPORTED, great, g -> g.abstraction(0, 'x'));
        Boundary.refused(Boundary.STATE, great, g -> g.abstraction(39, 'x'));
        Boundary.refused(Boundary.INDEX, () -> Boundary.of("x"), g -> g.abstraction(1, '{'));
        Boundary.refused(Boundary.ARGUMENT, () -> ofSizeFirst(200), g -> g.abstraction(0, '{'));
        Boundary.refused(Boundary.ARGUMENT, Boundary::full, g -> g.abstraction(0, '`'));
    }

    /** A garth whose first term is of a size. */
    private static Boehmgarth ofSizeFirst(int size) {
        Boehmgarth g = Boundary.of("u");
        g.copy(Boundary.addOfSize(g, size), 0);
        return g;
    }

    // ---- put

    /** The first term, and another one of a size behind it. */
    private static Boehmgarth withSize(String text, int size) {
        Boehmgarth g = Boundary.of(text);
        Boundary.addOfSize(g, size);
        return g;
    }

    private static Boehmgarth withNest(String text, int nest) {
        Boehmgarth g = Boundary.of(text);
        Boundary.addNested(g, nest);
        return g;
    }

    static void p09Takes200SignsAndNot201() {
        // 5 signs with one place of y, two places, and one at the end.
        Boehmgarth one = withSize("^z.yzz", 195);
        Boundary.due(200, one.size(one.put(0, 'y', Boundary.last(one))));
        Boundary.refused(Boundary.UNSUPPORTED, () -> withSize("^z.yzz", 196), g -> g.put(0, 'y', Boundary.last(g)));
        Boehmgarth two = withSize("^z.yzy", 98);
        Boundary.due(200, two.size(two.put(0, 'y', Boundary.last(two))));
        Boundary.refused(Boundary.UNSUPPORTED, () -> withSize("^z.yzy", 99), g -> g.put(0, 'y', Boundary.last(g)));
        Boehmgarth end = withSize("^z.zzy", 195);
        Boundary.due(200, end.size(end.put(0, 'y', Boundary.last(end))));
        Boundary.refused(Boundary.UNSUPPORTED, () -> withSize("^z.zzy", 196), g -> g.put(0, 'y', Boundary.last(g)));
        Boundary.refused(Boundary.UNSUPPORTED, () -> withSize("yy", 200), g -> g.put(0, 'y', Boundary.last(g)));
    }

    static void p09OneLetterBecomesTheOtherTermEvenTheGreatest() {
        Boehmgarth g = withSize("y", 200);
        Boundary.due(200, g.size(g.put(0, 'y', Boundary.last(g))));
        Boehmgarth deep = withNest("y", 25);
        Boundary.due(26, deep.size(deep.put(0, 'y', Boundary.last(deep))));
    }

    static void p09WithoutAPlaceTheTermStaysEvenWithTheGreatestOther() {
        Boehmgarth g = withSize("^y.yz", 200);
        Boundary.due("^@Az", Boundary.signs(g, g.put(0, 'y', Boundary.last(g))));
        int great = Boundary.last(g) - 1;
        Boundary.due(200, g.size(g.put(great, 'z', great)));
    }

    static void p09Takes25AbstractionsInsideOneAnotherAndNot26() {
        int[] around = {0, 1, 2, 12};
        for (int nest : around) {
            String text = Boundary.times(nest, "^a.") + "y";
            Boehmgarth g = withNest(text, 25 - nest);
            Boundary.due(26, g.size(g.put(0, 'y', Boundary.last(g))));
            if (nest > 0) {
                Boundary.refused(Boundary.UNSUPPORTED, () -> withNest(text, 26 - nest),
                        x -> x.put(0, 'y', Boundary.last(x)));
            }
        }
    }

    static void p09EachPlaceCountsByTheAbstractionsAroundIt() {
        Boehmgarth g = withNest("(^a.^b.^c.x)(^a.y)", 24);
        Boundary.due(31, g.size(g.put(0, 'y', Boundary.last(g))));
        Boundary.refused(Boundary.UNSUPPORTED, () -> withNest("(^a.^b.^c.x)(^a.y)", 24),
                x -> x.put(0, 'x', Boundary.last(x)));
        Boundary.refused(Boundary.UNSUPPORTED, () -> withNest("(^a.^b.^c.x)(^a.y)", 25),
                x -> x.put(0, 'y', Boundary.last(x)));
        Boehmgarth other = withNest("(^a.^b.^c.x)(^a.y)", 22);
        Boundary.due(29, other.size(other.put(0, 'x', Boundary.last(other))));
    }

    static void p09CatchesNoLetter() {
        Boehmgarth g = Boundary.of("^x.^z.yxz", "xz");
        Boundary.due("^^@@@xzBA", Boundary.signs(g, g.put(0, 'y', 1)));
    }

    static void p09TakesTheFirstAndTheLastLetterAndNotThoseNextToThem() {
        Boehmgarth g = Boundary.of("az", "uv");
        Boundary.due("@@uvz", Boundary.signs(g, g.put(0, 'a', 1)));
        Boundary.due("@a@uv", Boundary.signs(g, g.put(0, 'z', 1)));
        for (char letter : "`{AZ^@?.\0\uffff\u0161".toCharArray()) {
            Boundary.refused(Boundary.ARGUMENT, () -> Boundary.of("az"), x -> x.put(0, letter, 0));
        }
    }

    static void p09RefusesATermThatIsNotThereForEither() {
        for (int no : new int[] {-1, 1, 40, Integer.MIN_VALUE, Integer.MAX_VALUE}) {
            Boundary.refused(Boundary.INDEX, () -> Boundary.of("x"), g -> g.put(no, 'x', 0));
            Boundary.refused(Boundary.INDEX, () -> Boundary.of("x"), g -> g.put(0, 'x', no));
            Boundary.refused(Boundary.INDEX, () -> Boundary.of("x"), g -> g.put(0, 'q', no));
        }
    }

    static void p09TakesTheSameTerm() {
        Boehmgarth g = Boundary.of("xyx");
        Boundary.due("@@@@xyxy@@xyx", Boundary.signs(g, g.put(0, 'x', 0)));
        Boundary.due("@@xyx", Boundary.signs(g, 0));
    }

    static void p09AddsThe40thTermAndNotThe41st() {
        Boundary.due(39, Boundary.filledTo(39, new Boehmgarth()).put(38, 'x', 0));
        Boundary.refused(Boundary.STATE, Boundary::full, g -> g.put(39, 'x', 39));
    }

    static void p09ToldFirstIsTheTermThenTheLetterThenTheSizeThenThe40Terms() {
        Boundary.Making great = () -> Boundary.filledTo(40, ofSizeFirst(199));
        Boundary.refused(Boundary.INDEX, great, g -> g.put(-1, 'X', 0));
        Boundary.refused(Boundary.INDEX, great, g -> g.put(0, 'X', 40));
        Boundary.refused(Boundary.ARGUMENT, great, g -> g.put(0, 'X', 0));
        Boundary.refused(Boundary.UNSUPPORTED, great, g -> g.put(0, 'x', 0));
        Boundary.refused(Boundary.STATE, great, g -> g.put(0, 'y', 0));
        Boundary.refused(Boundary.INDEX, () -> Boundary.of("x"), g -> g.put(0, '{', 1));
        Boundary.refused(Boundary.INDEX, () -> Boundary.of("x"), g -> g.put(1, '{', 0));
        Boundary.refused(Boundary.ARGUMENT, () -> ofSizeFirst(199), g -> g.put(0, '{', 0));
        Boundary.refused(Boundary.ARGUMENT, Boundary::full, g -> g.put(0, '`', 0));
    }

    // ---- copy

    static void p10CopiesBetweenTheFirstAndTheLastOf40() {
        Boehmgarth g = Boundary.filledTo(40, Boundary.of("xy"));
        Boundary.due(3, g.copy(0, 39));
        Boundary.due("@xy", Boundary.signs(g, 39));
        Boundary.due(40, g.terms());
        Boundary.due(3, g.copy(1, 0));
        Boundary.due("^^A", Boundary.signs(g, 0));
        Boundary.due("@xy", Boundary.signs(g, 39));
    }

    static void p10CopiesTheGreatestOverTheSmallestAndTheOtherWayAbout() {
        Boehmgarth g = Boundary.of("x", "y");
        int great = Boundary.addOfSize(g, 200);
        Boundary.due(200, g.copy(great, 0));
        Boundary.due(true, g.areSame(0, great));
        Boundary.due(1, g.copy(1, great));
        Boundary.due("y", Boundary.signs(g, great));
        Boundary.due(200, g.size(0));
    }

    static void p10CopiesATermOverItself() {
        Boehmgarth g = Boundary.of("xyz");
        Boundary.due(5, g.copy(0, 0));
        Boundary.due("@@xyz", Boundary.signs(g, 0));
    }

    static void p10WhatIsMadeOfTheCopyLeavesTheTerm() {
        Boehmgarth g = Boundary.of("(^x.xx)a", "z");
        g.copy(0, 1);
        g.step(1, 'n');
        Boundary.due("@^@AAa", Boundary.signs(g, 0));
        g.step(0, 'n');
        g.copy(1, 0);
        g.eta(1);
        Boundary.due("@aa", Boundary.signs(g, 0));
    }

    static void p10RefusesATermThatIsNotThereForEither() {
        for (int no : new int[] {-1, 2, 40, Integer.MIN_VALUE, Integer.MAX_VALUE}) {
            Boundary.refused(Boundary.INDEX, () -> Boundary.of("x", "yy"), g -> g.copy(no, 0));
            Boundary.refused(Boundary.INDEX, () -> Boundary.of("x", "yy"), g -> g.copy(1, no));
            Boundary.refused(Boundary.INDEX, () -> Boundary.of("x", "yy"), g -> g.copy(no, no));
        }
        Boundary.refused(Boundary.INDEX, Boundary::full, g -> g.copy(40, 0));
        Boundary.refused(Boundary.INDEX, Boundary::full, g -> g.copy(0, 40));
    }

    // ---- size, places, isClosed, areSame

    static void p11SizesFrom1To200() {
        for (int size : new int[] {1, 2, 3, 4, 99, 100, 101, 198, 199, 200}) {
            Boehmgarth g = Boundary.ofSize(size);
            Boundary.due(size, g.size(Boundary.last(g)));
        }
    }

    static void p11RefusesATermThatIsNotThere() {
        for (int no : Boundary.NO_NUMBERS) {
            Boundary.refused(Boundary.INDEX, Boundary::full, g -> g.size(no));
            Boundary.refused(Boundary.INDEX, () -> Boundary.of("x"), g -> g.size(no));
        }
        Boundary.refused(Boundary.INDEX, () -> Boundary.of("x"), g -> g.size(1));
        Boundary.due(3, Boundary.full().size(39));
    }

    static void p12NoPlacesAndAsManyAsThereCanBe() {
        Boehmgarth g = Boundary.ofSize(199);
        Boundary.due(100, g.places(Boundary.last(g), 'x'));
        Boundary.due(0, g.places(Boundary.last(g), 'y'));
        Boehmgarth bound = Boundary.of("^x.xx", "^y.yx");
        Boundary.due(0, bound.places(0, 'x'));
        Boundary.due(1, bound.places(1, 'x'));
    }

    static void p12TakesTheFirstAndTheLastLetterAndNotThoseNextToThem() {
        Boehmgarth g = Boundary.of("azza^b.bz");
        Boundary.due(2, g.places(0, 'a'));
        Boundary.due(3, g.places(0, 'z'));
        Boundary.due(0, g.places(0, 'b'));
        for (char letter : "`{AZ^@?.\0\uffff\u0161".toCharArray()) {
            Boundary.refused(Boundary.ARGUMENT, () -> Boundary.of("az^b.b"), x -> x.places(0, letter));
        }
    }

    static void p12ToldFirstIsTheTermThenTheLetter() {
        Boundary.refused(Boundary.INDEX, () -> Boundary.of("x"), g -> g.places(1, 'X'));
        Boundary.refused(Boundary.INDEX, () -> Boundary.of("x"), g -> g.places(-1, 'x'));
        Boundary.refused(Boundary.INDEX, Boundary::full, g -> g.places(40, 'x'));
        Boundary.refused(Boundary.ARGUMENT, Boundary::full, g -> g.places(39, 'A'));
    }

    static void p13OneFreeLetterAtAnyPlaceIsEnough() {
        Boehmgarth g = Boundary.of("x", "^x.x", "^y.x", "a^x.x", "z^x.x", "(^x.x)z", "^x.^y.x(^z.zy)", "^x.^y.x(^z.za)");
        boolean[] closed = {false, true, false, false, false, false, true, false};
        for (int i = 0; i < closed.length; i++) {
            Boundary.due(i + " " + closed[i], i + " " + g.isClosed(i));
        }
    }

    static void p13TheGreatestTermIsClosed() {
        Boehmgarth g = Boundary.ofSize(199);
        int term = Boundary.last(g);
        Boundary.due(false, g.isClosed(term));
        Boundary.due(true, g.isClosed(g.abstraction(term, 'x')));
    }

    static void p13RefusesATermThatIsNotThere() {
        for (int no : new int[] {-1, 1, 40}) {
            Boundary.refused(Boundary.INDEX, () -> Boundary.of("x"), g -> g.isClosed(no));
        }
        Boundary.refused(Boundary.INDEX, Boundary::full, g -> g.isClosed(40));
    }

    static void p14TermsAlikeButForTheLettersThatAreBoundAreTheSame() {
        Boehmgarth g = Boundary.of("^x.^y.xyz", "^a.^b.abz", "^y.^x.yxz", "^x.^y.yxz", "^x.^y.xya", "^x.^y.xy");
        boolean[] same = {true, true, true, false, false, false};
        for (int i = 0; i < same.length; i++) {
            Boundary.due(i + " " + same[i], i + " " + g.areSame(0, i));
            Boundary.due(i + " " + same[i], i + " " + g.areSame(i, 0));
        }
    }

    static void p14OneSignIsEnough() {
        Boehmgarth g = Boundary.of("y");
        int great = Boundary.addOfSize(g, 199);
        int half = Boundary.add(g, Boundary.times(49, "x") + "y");
        int first = Boundary.add(g, "y" + Boundary.times(49, "x"));
        int plain = Boundary.add(g, Boundary.times(50, "x"));
        Boundary.due(true, g.areSame(great, g.apply(plain, plain)));
        Boundary.due(false, g.areSame(great, g.apply(plain, half)));
        Boundary.due(false, g.areSame(great, g.apply(first, plain)));
        Boundary.due(false, g.areSame(great, plain));
    }

    static void p14ReductionMakesNoTermsTheSame() {
        Boehmgarth g = Boundary.of("(^x.x)y", "y", "^x.yx");
        Boundary.due(false, g.areSame(0, 1));
        Boundary.due(false, g.areSame(1, 2));
    }

    static void p14RefusesATermThatIsNotThereForEither() {
        for (int no : new int[] {-1, 1, 40, Integer.MIN_VALUE, Integer.MAX_VALUE}) {
            Boundary.refused(Boundary.INDEX, () -> Boundary.of("x"), g -> g.areSame(no, 0));
            Boundary.refused(Boundary.INDEX, () -> Boundary.of("x"), g -> g.areSame(0, no));
            Boundary.refused(Boundary.INDEX, () -> Boundary.of("x"), g -> g.areSame(no, no));
        }
    }

    // ---- signAt

    static void p15TellsTheFirstAndTheLastSignAndNotThoseNextToThem() {
        for (int size : new int[] {1, 2, 199, 200}) {
            Boehmgarth g = Boundary.ofSize(size);
            int term = Boundary.last(g);
            Boundary.due(size == 1 ? 'x' : size % 2 == 0 ? '^' : '@', g.signAt(term, 0));
            Boundary.due('x', g.signAt(term, size - 1));
            for (int index : new int[] {-1, size, size + 1, Integer.MIN_VALUE, Integer.MAX_VALUE}) {
                Boundary.refused(Boundary.NO_ELEMENT, () -> Boundary.ofSize(size),
                        x -> x.signAt(Boundary.last(x), index));
            }
        }
    }

    static void p15BoundLettersAreToldFromAToY() {
        Boehmgarth g = Boundary.of("abcdefghijklmnopqrstuvwxy");
        int last = 0;
        for (char letter = 'y'; letter >= 'a'; letter--) {
            last = g.abstraction(last, letter);
        }
        Boundary.due(Boundary.times(25, "^") + Boundary.times(24, "@") + "YXWVUTSRQPONMLKJIHGFEDCBA",
                Boundary.signs(g, last));
    }

    static void p15ToldFirstIsTheTermThenTheSign() {
        for (int no : new int[] {-1, 1, 40, Integer.MIN_VALUE, Integer.MAX_VALUE}) {
            Boundary.refused(Boundary.INDEX, () -> Boundary.of("x"), g -> g.signAt(no, 0));
            Boundary.refused(Boundary.INDEX, () -> Boundary.of("x"), g -> g.signAt(no, -1));
        }
    }

    // ---- numberOf

    static void p16TellsEachFrom0To20() {
        for (int i = 0; i <= 20; i++) {
            Boehmgarth g = new Boehmgarth();
            Boundary.due(i, g.numberOf(g.number(i)));
        }
    }

    /** Adds ^f.^x. and f so many times on x. */
    private static int addNumber(Boehmgarth g, int number) {
        int inside = Boundary.add(g, "x");
        int ten = Boundary.add(g, "f(f(f(f(f(f(f(f(f(fx)))))))))");
        int one = Boundary.add(g, "fx");
        for (int i = 0; i < number / 10; i++) {
            inside = g.put(ten, 'x', inside);
        }
        for (int i = 0; i < number % 10; i++) {
            inside = g.put(one, 'x', inside);
        }
        return g.abstraction(g.abstraction(inside, 'x'), 'f');
    }

    static void p16TellsNumbersBeyond20AsTheyStand() {
        for (int number : new int[] {0, 1, 20, 21, 40, 97, 98}) {
            Boehmgarth g = new Boehmgarth();
            Boundary.due(number, g.numberOf(addNumber(g, number)));
        }
    }

    static void p16WhatIsNotANumberAsItStandsIsNone() {
        String[] texts = {"x", "xx", "^x.x", "^f.f", "^f.^x.f", "^f.^x.y", "^f.^x.xf", "^f.^x.xx", "^f.^x.ff", "^f.^x.ffx",
            "^f.^x.f(xx)", "^f.^x.f(xf)", "^f.^x.g(fx)", "^f.^x.f(gx)", "^f.^x.f(fy)", "^f.^x.^y.f(fy)", "^f.^x.f(ff)",
            "(^x.x)(^f.^x.fx)", "^f.^x.(^y.y)x", "^f.(^y.y)(^x.fx)", "^y.^f.^x.fx", "^f.fx", "^f.f(^x.fx)", "^f.^x.x(fx)",
            "^x.^f.f(fx)"};
        for (String text : texts) {
            Boundary.refused(Boundary.NO_ELEMENT, () -> Boundary.of(text), g -> g.numberOf(0));
        }
    }

    static void p16ItsLettersMayBeAny() {
        Boehmgarth g = Boundary.of("^a.^b.a(ab)", "^x.^x.x", "^z.^a.z(z(za))");
        Boundary.due(2, g.numberOf(0));
        Boundary.due(0, g.numberOf(1));
        Boundary.due(3, g.numberOf(2));
    }

    static void p16ToldFirstIsTheTermThenThatItIsNone() {
        for (int no : new int[] {-1, 1, 40}) {
            Boundary.refused(Boundary.INDEX, () -> Boundary.of("x"), g -> g.numberOf(no));
        }
    }

    public static void main(String[] args) {
        Boundary.run(WordBoundaries.class);
    }
}
