/** The boundary cases of the promises 17 to 26: redexes, residuals, steps, reductions and eta. */
public final class StepBoundaries {
    private static final String STRATEGIES = "nahwp";

    /** What comes of its only redex has 200 signs. */
    private static final String TO_200 = "(^x.^u.xxxxxxxxxx)(yyyyyyyyyy)";

    /** The 201st sign is one of the body's abstractions, one of its letters, or one of the argument's. */
    private static final String[] TO_201 = {"(^x.^u.^v.xxxxxxxxxx)(yyyyyyyyyy)", "(^x.xxxxxxxxxxz)(yyyyyyyyyy)",
        "(^x.zxxxxxxxxxx)(yyyyyyyyyy)"};

    /** What comes of its second redex is too great, what comes of the first one is y. */
    private static final String TOO_GREAT_INSIDE = "(^x.y)((^x.xxxxxxxxxxxxxxxxxxxx)(yyyyyyyyyy))";

    /** A redex whose argument has a nest, and whose body puts it behind so many abstractions more. */
    private static Boehmgarth toNest(int body, int argument) {
        Boehmgarth g = Boundary.of("x");
        int abstraction = g.abstraction(Boundary.addNested(g, body), 'x');
        g.copy(g.apply(abstraction, Boundary.addNested(g, argument)), 0);
        return g;
    }

    /** Adds a letter i applied to itself and so on, so many in all, and then to a; the first term is i. */
    private static int addChain(Boehmgarth g, int times) {
        int letters = Boundary.add(g, Boundary.times(times > 60 ? 60 : times, "i"));
        for (int i = 60; i < times; i++) {
            letters = g.apply(letters, 0);
        }
        return g.apply(letters, Boundary.add(g, "a"));
    }

    /** So many identities in front of a: so many steps by n, a, h, w and p. */
    private static Boehmgarth identities(int times) {
        Boehmgarth g = Boundary.of("i", "^x.x");
        g.copy(g.put(addChain(g, times), 'i', 1), 0);
        return g;
    }

    // ---- redexes, redexAt

    static void p17NoneOneAndMany() {
        Boehmgarth g = Boundary.of("x", "^x.x", "x^x.x", "(^x.x)x", "xx(^x.x)x", "^y.(^x.x)y", "(^x.x)((^x.x)((^x.x)y))");
        int[] redexes = {0, 0, 0, 1, 0, 1, 3};
        for (int i = 0; i < redexes.length; i++) {
            Boundary.due(i + " " + redexes[i], i + " " + g.redexes(i));
        }
    }

    static void p17AsManyAsAGreatTermHas() {
        Boehmgarth g = Boundary.of("(^x.x)((^x.x)((^x.x)((^x.x)((^x.x)((^x.x)((^x.x)a))))))");
        int seven = g.put(0, 'a', 0);
        int all = g.put(g.put(g.put(seven, 'a', seven), 'a', seven), 'a', seven);
        Boundary.due(56 * 3 + 1, g.size(all));
        Boundary.due(56, g.redexes(all));
        Boundary.due(55 * 3, g.redexAt(all, 55));
    }

    static void p17RefusesATermThatIsNotThere() {
        for (int no : new int[] {-1, 1, 40}) {
            Boundary.refused(Boundary.INDEX, () -> Boundary.of("(^x.x)y"), g -> g.redexes(no));
        }
    }

    static void p18TheFirstAndTheLastRedexAndNotThoseNextToThem() {
        Boehmgarth g = Boundary.of("(^x.x)((^x.x)y)", "x((^x.x)y)");
        Boundary.due(0, g.redexAt(0, 0));
        Boundary.due(3, g.redexAt(0, 1));
        Boundary.due(2, g.redexAt(1, 0));
        for (int redex : new int[] {-1, 2, 3, 40, 200, Integer.MIN_VALUE, Integer.MAX_VALUE}) {
            Boundary.refused(Boundary.NO_ELEMENT, () -> Boundary.of("(^x.x)((^x.x)y)"), x -> x.redexAt(0, redex));
        }
        Boundary.refused(Boundary.NO_ELEMENT, () -> Boundary.of("^x.x"), x -> x.redexAt(0, 0));
    }

    static void p18NumberedAsTheirSignsStand() {
        Boehmgarth g = Boundary.of("(^x.(^y.yx)x)((^z.z)a)((^u.u)b)");
        Boundary.due("@@^@^@ABA@^Aa@^Ab", Boundary.signs(g, 0));
        int[] places = {1, 3, 9, 13};
        for (int i = 0; i < places.length; i++) {
            Boundary.due(places[i], g.redexAt(0, i));
        }
    }

    static void p18ToldFirstIsTheTermThenTheRedex() {
        for (int no : new int[] {-1, 1, 40}) {
            Boundary.refused(Boundary.INDEX, () -> Boundary.of("x"), g -> g.redexAt(no, -1));
            Boundary.refused(Boundary.INDEX, () -> Boundary.of("x"), g -> g.redexAt(no, 0));
        }
    }

    // ---- contract

    static void p19Takes200SignsAndNot201() {
        Boundary.due(200, Boundary.of(TO_200).contract(0, 0));
        for (String text : TO_201) {
            Boundary.refused(Boundary.UNSUPPORTED, () -> Boundary.of(text), g -> g.contract(0, 0));
        }
    }

    static void p19WhatIsAroundTheRedexCounts() {
        // 99 signs come of the redex.
        String redex = "((^x.xxxxxyyyyy)(yyyyyyyyy))";
        for (int side = 0; side < 2; side++) {
            int redexFirst = side;
            Boehmgarth g = beside(redex, 100, redexFirst);
            Boundary.due(200, g.contract(0, g.redexes(0) - 1));
            Boundary.refused(Boundary.UNSUPPORTED, () -> beside(redex, 101, redexFirst), x -> x.contract(0, 0));
        }
    }

    private static Boehmgarth beside(String text, int size, int isFirst) {
        Boehmgarth g = Boundary.of(text);
        int other = Boundary.addOfSize(g, size);
        g.copy(isFirst == 1 ? g.apply(0, other) : g.apply(other, 0), 0);
        return g;
    }

    static void p19Takes25AbstractionsInsideOneAnotherAndNot26() {
        int[] bodies = {1, 2, 12};
        for (int body : bodies) {
            Boundary.due(26, toNest(body, 25 - body).contract(0, 0));
            Boundary.refused(Boundary.UNSUPPORTED, () -> toNest(body, 26 - body), g -> g.contract(0, 0));
        }
        Boundary.due(26, toNest(0, 25).contract(0, 0));
    }

    private static Boehmgarth inside(int around, int body, int argument) {
        Boehmgarth g = toNest(body, argument);
        int outer = Boundary.addNested(g, around);
        g.copy(g.put(outer, 'x', 0), 0);
        return g;
    }

    static void p19TheAbstractionsAroundTheRedexCount() {
        Boundary.due(26, inside(10, 7, 8).contract(0, 0));
        Boundary.refused(Boundary.UNSUPPORTED, () -> inside(10, 7, 9), g -> g.contract(0, 0));
        Boundary.refused(Boundary.UNSUPPORTED, () -> inside(10, 8, 8), g -> g.contract(0, 0));
        Boundary.refused(Boundary.UNSUPPORTED, () -> inside(11, 7, 8), g -> g.contract(0, 0));
    }

    static void p19TheContractedAbstractionIsGone() {
        Boehmgarth g = Boundary.of("y");
        int deep = g.apply(Boundary.addNested(g, 25), 0);
        Boundary.due(25, g.contract(deep, 0));
        Boundary.due(Boundary.times(24, "^") + "x", Boundary.signs(g, deep));
    }

    static void p19AnArgumentThatIsThrownAwayCountsNoMore() {
        Boehmgarth g = Boundary.of("(^x.y)");
        int great = Boundary.addOfSize(g, 195);
        int term = g.apply(0, great);
        Boundary.due(1, g.contract(term, 0));
        Boundary.due("y", Boundary.signs(g, term));
    }

    static void p19CatchesNoLetter() {
        Boehmgarth g = Boundary.of("(^x.^y.xy)y", "^y.(^x.^z.xyz)y", "^y.(^x.^y.xy)(^z.zy)");
        g.contract(0, 0);
        g.contract(1, 0);
        g.contract(2, 0);
        Boundary.due("^@yA", Boundary.signs(g, 0));
        Boundary.due("^^@@BBA", Boundary.signs(g, 1));
        Boundary.due("^^@^@ACA", Boundary.signs(g, 2));
    }

    static void p19EachCopyOfAnArgumentKeepsItsLetters() {
        Boehmgarth g = Boundary.of("^y.(^x.^u.xxx)(^z.zy)", "^y.(^x.^u.x(^v.x)x)(z^a.yaz)");
        g.contract(0, 0);
        g.contract(1, 0);
        Boundary.due("^^@@^@AC^@AC^@AC", Boundary.signs(g, 0));
        Boundary.due("^^@@@z^@@CAz^@z^@@DAz@z^@@CAz", Boundary.signs(g, 1));
    }

    static void p19TheFirstAndTheLastRedexAndNotThoseNextToThem() {
        String text = "a((^x.x)b)((^x.x)c)";
        Boehmgarth first = Boundary.of(text);
        Boundary.due(8, first.contract(0, 0));
        Boundary.due("@@ab@^Ac", Boundary.signs(first, 0));
        Boehmgarth last = Boundary.of(text);
        Boundary.due(8, last.contract(0, 1));
        Boundary.due("@@a@^Abc", Boundary.signs(last, 0));
        for (int redex : new int[] {-1, 2, 40, 200, Integer.MIN_VALUE, Integer.MAX_VALUE}) {
            Boundary.refused(Boundary.NO_ELEMENT, () -> Boundary.of(text), g -> g.contract(0, redex));
        }
        Boundary.refused(Boundary.NO_ELEMENT, () -> Boundary.of("x"), g -> g.contract(0, 0));
    }

    static void p19ToldFirstIsTheTermThenTheRedexThenTheSize() {
        for (int no : new int[] {-1, 1, 40}) {
            Boundary.refused(Boundary.INDEX, () -> Boundary.of(TO_201[0]), g -> g.contract(no, 0));
            Boundary.refused(Boundary.INDEX, () -> Boundary.of(TO_201[0]), g -> g.contract(no, 7));
        }
        Boundary.refused(Boundary.NO_ELEMENT, () -> Boundary.of(TO_201[0]), g -> g.contract(0, 1));
        Boundary.refused(Boundary.NO_ELEMENT, () -> Boundary.of(TO_201[0]), g -> g.contract(0, -1));
    }

    static void p19NeedsNoRoomForTerms() {
        Boehmgarth g = Boundary.filledTo(40, Boundary.of("(^x.x)y"));
        Boundary.due(1, g.contract(0, 0));
        Boundary.due(40, g.terms());
    }

    // ---- residuals

    static void p20NoneForTheSame() {
        Boehmgarth g = Boundary.of("(^x.xx)((^y.y)a)");
        Boundary.due(0, g.residuals(0, 0, 0));
        Boundary.due(0, g.residuals(0, 1, 1));
    }

    static void p20NoneIfItStoodInWhatWasThrownAway() {
        Boehmgarth g = Boundary.of("(^x.y)((^y.y)a)");
        Boundary.due(0, g.residuals(0, 1, 0));
        Boundary.due(1, g.residuals(0, 0, 1));
    }

    static void p20AsManyAsItsCopies() {
        for (int copies = 1; copies <= 20; copies++) {
            Boehmgarth g = Boundary.of("(^x." + Boundary.times(copies, "x") + ")((^y.y)a)");
            Boundary.due(copies, g.residuals(0, 1, 0));
        }
        Boehmgarth g = Boundary.of("(^x.x((^z.z)b))((^y.y)a)");
        Boundary.due(1, g.residuals(0, 1, 0));
        Boundary.due(1, g.residuals(0, 2, 0));
    }

    static void p20WhatComesToBeARedexIsNone() {
        Boehmgarth g = Boundary.of("(^x.xa((^u.u)x))(^y.y)");
        Boundary.due(1, g.residuals(0, 1, 0));
    }

    static void p20ChangesNothing() {
        Boehmgarth g = Boundary.of("(^x.xx)((^y.y)a)");
        g.residuals(0, 1, 0);
        Boundary.due("@^@AA@^Aa", Boundary.signs(g, 0));
    }

    static void p20Takes200SignsAndNot201() {
        // Eight times 20 signs, 16 letters, 23 applications and an abstraction.
        String fit = "(^x.^u.xxxxxxxxtttttttttttttttt)(yyyyyyyy((^z.z)y))";
        String great = "(^x.^u.^v.xxxxxxxxtttttttttttttttt)(yyyyyyyy((^z.z)y))";
        Boundary.due(8, Boundary.of(fit).residuals(0, 1, 0));
        Boundary.due(200, Boundary.of(fit).contract(0, 0));
        Boundary.refused(Boundary.UNSUPPORTED, () -> Boundary.of(great), g -> g.residuals(0, 1, 0));
        Boundary.refused(Boundary.UNSUPPORTED, () -> Boundary.of(great), g -> g.residuals(0, 0, 0));
        Boundary.due(1, Boundary.of(great).residuals(0, 0, 1));
    }

    /** As toNest, but the argument ends in a redex, which has an abstraction, too. */
    private static Boehmgarth toNestWithRedex(int body, int argument) {
        Boehmgarth g = toNest(body, argument - 1);
        g.copy(g.put(0, 'x', Boundary.add(g, "(^z.z)w")), 0);
        return g;
    }

    static void p20Takes25AbstractionsInsideOneAnotherAndNot26() {
        for (int body : new int[] {1, 12, 20}) {
            Boundary.due(1, toNestWithRedex(body, 25 - body).residuals(0, 1, 0));
            Boundary.refused(Boundary.UNSUPPORTED, () -> toNestWithRedex(body, 26 - body), g -> g.residuals(0, 1, 0));
        }
    }

    static void p20TheFirstAndTheLastRedexAndNotThoseNextToThemForEither() {
        for (int redex : new int[] {-1, 2, 40, 200, Integer.MIN_VALUE, Integer.MAX_VALUE}) {
            for (int other : new int[] {0, 1, redex}) {
                Boundary.refused(Boundary.NO_ELEMENT, () -> Boundary.of("(^x.xx)((^y.y)a)"),
                        g -> g.residuals(0, redex, other));
                Boundary.refused(Boundary.NO_ELEMENT, () -> Boundary.of("(^x.xx)((^y.y)a)"),
                        g -> g.residuals(0, other, redex));
            }
        }
        Boundary.refused(Boundary.NO_ELEMENT, () -> Boundary.of("x"), g -> g.residuals(0, 0, 0));
    }

    static void p20ToldFirstIsTheTermThenTheRedexThenTheSize() {
        for (int no : new int[] {-1, 1, 40}) {
            Boundary.refused(Boundary.INDEX, () -> Boundary.of(TO_201[0]), g -> g.residuals(no, 0, 0));
            Boundary.refused(Boundary.INDEX, () -> Boundary.of(TO_201[0]), g -> g.residuals(no, -1, 5));
        }
        for (int redex : new int[] {-1, 1}) {
            Boundary.refused(Boundary.NO_ELEMENT, () -> Boundary.of(TO_201[0]), g -> g.residuals(0, redex, 0));
            Boundary.refused(Boundary.NO_ELEMENT, () -> Boundary.of(TO_201[0]), g -> g.residuals(0, 0, redex));
        }
    }

    // ---- joins

    static void p21TheSameAndOthersJoin() {
        String[] texts = {"(^x.xx)((^y.y)a)", "(^x.y)((^y.y)a)", "(^x.(^y.yx)x)a", "(^x.x)a((^x.x)b)", "(^x.xx)(^x.(^y.y)x)"};
        for (String text : texts) {
            for (int one = 0; one < 2; one++) {
                for (int other = 0; other < 2; other++) {
                    Boehmgarth g = Boundary.of(text);
                    long before = g.checksum();
                    Boundary.due(true, g.joins(0, one, other));
                    Boundary.due(before, g.checksum());
                }
            }
        }
    }

    static void p21Takes200SignsBehindTheFirstContractionAndNot201() {
        // Nine times 20 signs, 6 letters and 14 applications; the argument alone comes to y.
        String fit = "(^x.xxxxxxxxxtttttt)((^z.y)(wwwwwwwww))";
        String great = "(^x.^u.xxxxxxxxxtttttt)((^z.y)(wwwwwwwww))";
        Boundary.due(200, Boundary.of(fit).contract(0, 0));
        int[][] pairs = {{0, 1}, {1, 0}, {0, 0}};
        for (int[] pair : pairs) {
            Boundary.due(true, Boundary.of(fit).joins(0, pair[0], pair[1]));
            Boundary.refused(Boundary.UNSUPPORTED, () -> Boundary.of(great), g -> g.joins(0, pair[0], pair[1]));
        }
        Boundary.due(true, Boundary.of(great).joins(0, 1, 1));
    }

    static void p21Takes200SignsBehindTheResidualsAndNot201() {
        // Behind the first contraction there are 110 signs or 47, behind both six times 31, 4, 9 and an abstraction.
        String fit = "(^x.^u.xxxxxxtttt)((^z.zzzz)(yyyy))";
        String great = "(^x.^u.^v.xxxxxxtttt)((^z.zzzz)(yyyy))";
        Boehmgarth g = Boundary.of(fit);
        g.contract(0, 1);
        Boundary.due(200, g.contract(0, 0));
        int[][] pairs = {{0, 1}, {1, 0}};
        for (int[] pair : pairs) {
            Boundary.due(true, Boundary.of(fit).joins(0, pair[0], pair[1]));
            Boundary.refused(Boundary.UNSUPPORTED, () -> Boundary.of(great), x -> x.joins(0, pair[0], pair[1]));
        }
        Boundary.due(true, Boundary.of(great).joins(0, 0, 0));
        Boundary.due(true, Boundary.of(great).joins(0, 1, 1));
    }

    static void p21Takes25AbstractionsInsideOneAnotherAndNot26() {
        Boundary.due(true, toNestWithRedex(12, 13).joins(0, 0, 1));
        Boundary.due(true, toNestWithRedex(12, 13).joins(0, 1, 0));
        Boundary.refused(Boundary.UNSUPPORTED, () -> toNestWithRedex(12, 14), g -> g.joins(0, 0, 1));
        Boundary.refused(Boundary.UNSUPPORTED, () -> toNestWithRedex(12, 14), g -> g.joins(0, 1, 0));
        // Each contraction alone leaves 18 at the most, both together 25 and 26.
        int[][] pairs = {{0, 1}, {1, 0}};
        for (int[] pair : pairs) {
            Boundary.due(true, toNestTwice(9).joins(0, pair[0], pair[1]));
            Boundary.refused(Boundary.UNSUPPORTED, () -> toNestTwice(10), g -> g.joins(0, pair[0], pair[1]));
        }
        Boundary.due(true, toNestTwice(10).joins(0, 0, 0));
        Boundary.due(true, toNestTwice(10).joins(0, 1, 1));
    }

    /** A redex in the argument of another one, each of which puts its argument behind eight abstractions. */
    private static Boehmgarth toNestTwice(int argument) {
        Boehmgarth g = Boundary.of("(^x.^a.^a.^a.^a.^a.^a.^a.^a.x)y");
        int inner = g.put(0, 'y', Boundary.addNested(g, argument));
        g.copy(g.put(0, 'y', inner), 0);
        return g;
    }

    static void p21TheFirstAndTheLastRedexAndNotThoseNextToThemForEither() {
        for (int redex : new int[] {-1, 2, 40, 200, Integer.MIN_VALUE, Integer.MAX_VALUE}) {
            for (int other : new int[] {0, 1, redex}) {
                Boundary.refused(Boundary.NO_ELEMENT, () -> Boundary.of("(^x.xx)((^y.y)a)"), g -> g.joins(0, redex, other));
                Boundary.refused(Boundary.NO_ELEMENT, () -> Boundary.of("(^x.xx)((^y.y)a)"), g -> g.joins(0, other, redex));
            }
        }
        Boundary.refused(Boundary.NO_ELEMENT, () -> Boundary.of("x"), g -> g.joins(0, 0, 0));
    }

    static void p21ToldFirstIsTheTermThenTheRedexThenTheSize() {
        for (int no : new int[] {-1, 1, 40}) {
            Boundary.refused(Boundary.INDEX, () -> Boundary.of(TO_201[0]), g -> g.joins(no, 0, 0));
            Boundary.refused(Boundary.INDEX, () -> Boundary.of(TO_201[0]), g -> g.joins(no, -1, 5));
        }
        for (int redex : new int[] {-1, 1}) {
            Boundary.refused(Boundary.NO_ELEMENT, () -> Boundary.of(TO_201[0]), g -> g.joins(0, redex, 0));
            Boundary.refused(Boundary.NO_ELEMENT, () -> Boundary.of(TO_201[0]), g -> g.joins(0, 0, redex));
        }
    }

    // ---- step

    private static void step(String text, char strategy, String signs) {
        Boehmgarth g = Boundary.of(text);
        Boundary.due(text + strategy + true, text + strategy + g.step(0, strategy));
        Boundary.due(text + strategy + signs, text + strategy + Boundary.signs(g, 0));
    }

    private static void noStep(String text, char strategy) {
        Boehmgarth g = Boundary.of(text);
        long before = g.checksum();
        Boundary.due(text + strategy + false, text + strategy + g.step(0, strategy));
        Boundary.due(before, g.checksum());
        Boundary.due(text + strategy + true, text + strategy + g.isNormal(0, strategy));
    }

    static void p22Takes200SignsAndNot201ByEachStrategy() {
        for (char strategy : STRATEGIES.toCharArray()) {
            Boehmgarth g = Boundary.of(TO_200);
            Boundary.due(true, g.step(0, strategy));
            Boundary.due(200, g.size(0));
            for (String text : TO_201) {
                Boundary.refused(Boundary.UNSUPPORTED, () -> Boundary.of(text), x -> x.step(0, strategy));
            }
        }
    }

    static void p22Takes25AbstractionsInsideOneAnotherAndNot26ByEachStrategy() {
        for (char strategy : STRATEGIES.toCharArray()) {
            Boehmgarth g = toNest(12, 13);
            Boundary.due(true, g.step(0, strategy));
            Boundary.due(26, g.size(0));
            Boundary.refused(Boundary.UNSUPPORTED, () -> toNest(12, 14), x -> x.step(0, strategy));
            Boundary.refused(Boundary.UNSUPPORTED, () -> toNest(13, 13), x -> x.step(0, strategy));
        }
    }

    static void p22WhatIsAroundTheRedexCountsByEachStrategy() {
        for (char strategy : STRATEGIES.toCharArray()) {
            // 99 signs come of the redex.
            String redex = "(^x.xxxxxyyyyy)(yyyyyyyyy)";
            Boehmgarth g = beside(redex, 100, 1);
            Boundary.due(true, g.step(0, strategy));
            Boundary.due(200, g.size(0));
            Boundary.refused(Boundary.UNSUPPORTED, () -> beside(redex, 101, 1), x -> x.step(0, strategy));
        }
    }

    static void p22NContractsTheFirst() {
        step("(^x.(^y.y)x)((^z.z)a)", 'n', "@^A@^Aa");
        step("x((^y.y)a)((^z.z)b)", 'n', "@@xa@^Ab");
        step("^u.x((^y.y)u)", 'n', "^@xA");
        noStep("^x.x(^y.yx)", 'n');
    }

    static void p22AContractsTheFirstInWhichNoOtherIsAsTheyEnd() {
        step("(^x.(^y.y)x)((^z.z)a)", 'a', "@^A@^Aa");
        step("x((^y.yy)((^z.z)a))((^u.u)b)", 'a', "@@x@^@AAa@^Ab");
        step("(^x.xx)((^z.z)a)", 'a', "@^@AAa");
        step("(^x.xx)a((^z.z)b)", 'a', "@@aa@^Ab");
        noStep("^x.x(^y.yx)", 'a');
    }

    static void p22HContractsTheHeadRedexBehindAllAbstractions() {
        step("^u.^v.(^x.x)va((^y.y)b)", 'h', "^^@@Aa@^Ab");
        step("(^x.(^y.y)x)a", 'h', "@^Aa");
        noStep("^u.u((^x.x)a)", 'h');
        noStep("x(^u.(^x.x)a)", 'h');
        noStep("x", 'h');
        noStep("^u.^v.u", 'h');
    }

    static void p22WContractsTheHeadRedexNotBehindAnAbstraction() {
        step("(^x.x)va((^y.y)b)", 'w', "@@va@^Ab");
        step("(^x.^u.(^y.y)x)a", 'w', "^@^Aa");
        noStep("^u.(^x.x)u", 'w');
        noStep("x((^x.x)a)", 'w');
        noStep("x", 'w');
    }

    static void p22PContractsAllAtOnce() {
        step("(^x.(^y.yx)x)((^z.z)a)", 'p', "@aa");
        step("^u.(^x.x)u((^y.y)b)", 'p', "^@Ab");
        step("(^x.xa)(^y.y)", 'p', "@^Aa");
        step("(^x.xx)(^y.(^z.z)y)", 'p', "@^A^A");
        noStep("^x.x(^y.yx)", 'p');
    }

    static void p22APartThatIsTooGreatOnTheWayByPIsRefusedThoughItIsThrownAway() {
        Boundary.refused(Boundary.UNSUPPORTED, () -> Boundary.of(TOO_GREAT_INSIDE), g -> g.step(0, 'p'));
        Boundary.refused(Boundary.UNSUPPORTED, () -> Boundary.of(TOO_GREAT_INSIDE), g -> g.step(0, 'a'));
        step(TOO_GREAT_INSIDE, 'n', "y");
        step(TOO_GREAT_INSIDE, 'h', "y");
        step(TOO_GREAT_INSIDE, 'w', "y");
    }

    static void p22APartOf200SignsOnTheWayByPStandsAndNotOneOf201() {
        step("(^v.y)(" + TO_200 + ")", 'p', "y");
        for (String text : TO_201) {
            Boundary.refused(Boundary.UNSUPPORTED, () -> Boundary.of("(^v.y)(" + text + ")"), g -> g.step(0, 'p'));
        }
    }

    static void p22PartsOnTheWayByPAreLookedAtByThemselves() {
        // Two parts of 199 signs, each thrown away by its own redex.
        String part = "(^v.y)((^x.xxxxxxxxxx)(zzzzzzzzzz))";
        Boehmgarth g = Boundary.of(part);
        int both = g.apply(0, 0);
        Boundary.due(true, g.step(both, 'p'));
        Boundary.due("@yy", Boundary.signs(g, both));
        // A part with 25 abstractions inside one another, thrown away behind five others.
        Boehmgarth deep = thrownAway(12, 13);
        int around = deep.put(Boundary.addNested(deep, 5), 'x', 0);
        Boundary.due(true, deep.step(around, 'p'));
        Boundary.due("^^^^^y", Boundary.signs(deep, around));
    }

    /** A redex that is thrown away, of which so many abstractions inside one another come. */
    private static Boehmgarth thrownAway(int body, int argument) {
        Boehmgarth g = toNest(body, argument);
        g.copy(g.apply(Boundary.add(g, "^x.y"), 0), 0);
        return g;
    }

    static void p22APartOf25AbstractionsOnTheWayByPStandsAndNotOneOf26() {
        Boehmgarth g = thrownAway(12, 13);
        Boundary.due(true, g.step(0, 'p'));
        Boundary.due("y", Boundary.signs(g, 0));
        Boundary.refused(Boundary.UNSUPPORTED, () -> thrownAway(12, 14), x -> x.step(0, 'p'));
        Boehmgarth first = thrownAway(12, 14);
        Boundary.due(true, first.step(0, 'n'));
    }

    /** In place of x the second redex, of which just its body comes: so many abstractions. */
    private static Boehmgarth bodyOf(int outer, int inner) {
        Boehmgarth g = Boundary.of("x", "w");
        int redex = g.apply(g.abstraction(Boundary.addNested(g, inner), 'v'), 1);
        int body = g.put(Boundary.addNested(g, outer), 'x', Boundary.add(g, "v"));
        g.copy(g.apply(g.abstraction(body, 'v'), redex), 0);
        return g;
    }

    static void p22TheAbstractionThatIsContractedInsideIsGoneOnTheWayByP() {
        Boehmgarth g = bodyOf(14, 11);
        Boundary.due(true, g.step(0, 'p'));
        Boundary.due(26, g.size(0));
        Boundary.refused(Boundary.UNSUPPORTED, () -> bodyOf(14, 12), x -> x.step(0, 'p'));
        Boundary.refused(Boundary.UNSUPPORTED, () -> bodyOf(15, 11), x -> x.step(0, 'p'));
        // By n, the inner redex stands there with its abstraction.
        Boundary.refused(Boundary.UNSUPPORTED, () -> bodyOf(14, 11), x -> x.step(0, 'n'));
        Boundary.due(true, bodyOf(14, 10).step(0, 'n'));
    }

    static void p22RefusesWhatIsNoStrategy() {
        for (char strategy : "NAHWPbgimoqvx? .\0\uffff\u016e".toCharArray()) {
            Boundary.refused(Boundary.ARGUMENT, () -> Boundary.of("(^x.x)y"), g -> g.step(0, strategy));
            Boundary.refused(Boundary.ARGUMENT, () -> Boundary.of("x"), g -> g.step(0, strategy));
        }
    }

    static void p22ToldFirstIsTheTermThenTheStrategyThenTheSize() {
        for (int no : new int[] {-1, 1, 40}) {
            Boundary.refused(Boundary.INDEX, () -> Boundary.of("(^x.x)y"), g -> g.step(no, 'x'));
            Boundary.refused(Boundary.INDEX, () -> Boundary.of("(^x.x)y"), g -> g.step(no, 'n'));
        }
        Boundary.refused(Boundary.ARGUMENT, () -> Boundary.of(TO_201[0]), g -> g.step(0, 'N'));
    }

    // ---- isNormal

    static void p23NormalIsWhatHasNoSuchRedex() {
        String[] texts = {"x", "^x.(^y.y)x", "x((^y.y)x)", "(^y.y)x", "^x.x((^y.y)x)", "(^x.x)(^y.y)z", "^x.xx"};
        String[] normal = {"nahwp", "w", "hw", "", "hw", "", "nahwp"};
        for (int i = 0; i < texts.length; i++) {
            Boehmgarth g = Boundary.of(texts[i]);
            for (char strategy : STRATEGIES.toCharArray()) {
                Boundary.due(texts[i] + strategy + (normal[i].indexOf(strategy) >= 0),
                        texts[i] + strategy + g.isNormal(0, strategy));
            }
        }
    }

    static void p23IsAskedOfWhatWouldBeTooGreat() {
        for (char strategy : STRATEGIES.toCharArray()) {
            Boundary.due(false, Boundary.of(TO_201[0]).isNormal(0, strategy));
        }
    }

    static void p23ToldFirstIsTheTermThenTheStrategy() {
        for (int no : new int[] {-1, 1, 40}) {
            Boundary.refused(Boundary.INDEX, () -> Boundary.of("x"), g -> g.isNormal(no, 'x'));
            Boundary.refused(Boundary.INDEX, () -> Boundary.of("x"), g -> g.isNormal(no, 'n'));
        }
        for (char strategy : "NAHWPbgimoqvx?\0\uffff\u016e".toCharArray()) {
            Boundary.refused(Boundary.ARGUMENT, () -> Boundary.of("x"), g -> g.isNormal(0, strategy));
        }
    }

    // ---- reduce

    static void p24TakesFrom1To60StepsAtMost() {
        for (int most : new int[] {1, 2, 59, 60}) {
            Boehmgarth g = Boundary.of("(^x.x)y");
            Boundary.due(1, g.reduce(0, 'n', most));
            Boundary.due(0, g.reduce(0, 'n', most));
        }
        for (int most : new int[] {0, -1, 61, 62, Integer.MIN_VALUE, Integer.MAX_VALUE}) {
            Boundary.refused(Boundary.ARGUMENT, () -> Boundary.of("(^x.x)y"), g -> g.reduce(0, 'n', most));
            Boundary.refused(Boundary.ARGUMENT, () -> Boundary.of("x"), g -> g.reduce(0, 'n', most));
        }
    }

    static void p24JustAsManyStepsAsMayBeAndNotOneMore() {
        for (char strategy : STRATEGIES.toCharArray()) {
            for (int steps : new int[] {1, 2, 5, 20, 59, 60}) {
                Boehmgarth g = identities(steps);
                Boundary.due(steps, g.reduce(0, strategy, steps));
                Boundary.due("a", Boundary.signs(g, 0));
                Boundary.refused(Boundary.UNSUPPORTED, () -> identities(steps + 1), x -> x.reduce(0, strategy, steps));
            }
        }
    }

    static void p24EndsAsItIsNormalByTheStrategy() {
        String text = "(^x.^u.x((^y.y)u))((^z.z)a)";
        char[] strategies = {'w', 'h', 'n', 'a', 'p'};
        int[] steps = {1, 2, 3, 3, 1};
        String[] signs = {"^@@^Aa@^AA", "^@a@^AA", "^@aA", "^@aA", "^@aA"};
        for (int i = 0; i < steps.length; i++) {
            Boehmgarth g = Boundary.of(text);
            Boundary.due(strategies[i] + " " + steps[i], strategies[i] + " " + g.reduce(0, strategies[i], 60));
            Boundary.due(signs[i], Boundary.signs(g, 0));
        }
    }

    static void p24WhatIsTooGreatOnTheWayIsRefusedThoughItWouldShrink() {
        String text = "(^x.(^z.y)(xxxxxxxxxxx))(yyyyyyyyyy)";
        Boundary.refused(Boundary.UNSUPPORTED, () -> Boundary.of(text), g -> g.reduce(0, 'n', 60));
        Boehmgarth g = Boundary.of(text);
        Boundary.due(2, g.reduce(0, 'a', 60));
        Boundary.due("y", Boundary.signs(g, 0));
        String fit = "(^x.(^z.y)(xxxxxxxxx))(yyyyyyyyyy)";
        Boundary.due(2, Boundary.of(fit).reduce(0, 'n', 60));
    }

    static void p24Takes200SignsAndNot201() {
        for (char strategy : STRATEGIES.toCharArray()) {
            Boundary.due(1, Boundary.of(TO_200).reduce(0, strategy, 1));
            Boundary.refused(Boundary.UNSUPPORTED, () -> Boundary.of(TO_201[1]), g -> g.reduce(0, strategy, 60));
            Boundary.due(1, toNest(12, 13).reduce(0, strategy, 1));
            Boundary.refused(Boundary.UNSUPPORTED, () -> toNest(12, 14), g -> g.reduce(0, strategy, 60));
        }
    }

    static void p24WhatComesToNoEndIsRefused() {
        for (char strategy : STRATEGIES.toCharArray()) {
            Boundary.refused(Boundary.UNSUPPORTED, () -> Boundary.of(Boundary.OMEGA), g -> g.reduce(0, strategy, 60));
            Boundary.refused(Boundary.UNSUPPORTED, () -> Boundary.of("(^x.xxx)(^x.xxx)"), g -> g.reduce(0, strategy, 60));
        }
    }

    static void p24ToldFirstIsTheTermThenTheStrategyAndTheNumberThenTheSteps() {
        for (int no : new int[] {-1, 1, 40}) {
            Boundary.refused(Boundary.INDEX, () -> Boundary.of(Boundary.OMEGA), g -> g.reduce(no, 'x', 0));
            Boundary.refused(Boundary.INDEX, () -> Boundary.of(Boundary.OMEGA), g -> g.reduce(no, 'n', 0));
            Boundary.refused(Boundary.INDEX, () -> Boundary.of(Boundary.OMEGA), g -> g.reduce(no, 'n', 1));
        }
        for (char strategy : "NAHWPbgimoqvx?\0\uffff\u016e".toCharArray()) {
            Boundary.refused(Boundary.ARGUMENT, () -> Boundary.of("x"), g -> g.reduce(0, strategy, 60));
            Boundary.refused(Boundary.ARGUMENT, () -> Boundary.of(Boundary.OMEGA), g -> g.reduce(0, strategy, 61));
        }
        Boundary.refused(Boundary.ARGUMENT, () -> Boundary.of(Boundary.OMEGA), g -> g.reduce(0, 'n', 61));
        Boundary.refused(Boundary.ARGUMENT, () -> Boundary.of(Boundary.OMEGA), g -> g.reduce(0, 'n', 0));
    }

    // ---- best

    static void p25TheFirstOfThoseWithAsFewSteps() {
        Boundary.due('n', Boundary.of("x").best(0));
        Boundary.due('n', Boundary.of("(^x.x)a").best(0));
        Boundary.due('n', Boundary.of("(^x.y)((^x.x)a)").best(0));
    }

    static void p25FewerStepsAreBetter() {
        Boundary.due('p', Boundary.of("(^x.xx)((^y.y)a)").best(0));
        Boundary.due('p', Boundary.of("(^x.x)a((^x.x)b)").best(0));
        // By p and a the second part is too great; by n it is thrown away.
        Boundary.due('n', Boundary.of(TOO_GREAT_INSIDE).best(0));
        // By n and p the first step is too great.
        Boundary.due('a', Boundary.of("(^x.xxxxxxxxxxxx)((^y.y(bbbbbbbbb))(^z.c))").best(0));
    }

    static void p25Takes60StepsAndNot61() {
        Boundary.due('n', identities(59).best(0));
        Boundary.due('n', identities(60).best(0));
        Boundary.refused(Boundary.NO_ELEMENT, () -> identities(61), g -> g.best(0));
    }

    /** Two chains of identities side by side: by n and a one behind the other, by p at once. */
    private static Boehmgarth chains(int first, int second) {
        Boehmgarth g = Boundary.of("i", "^x.x", "d");
        int one = addChain(g, first);
        int other = addChain(g, second);
        g.copy(g.put(g.apply(g.apply(2, one), other), 'i', 1), 0);
        return g;
    }

    static void p25Takes60StepsByPAndNot61ThoughNTakesMore() {
        Boundary.due('p', chains(59, 1).best(0));
        Boundary.due('p', chains(60, 1).best(0));
        Boundary.refused(Boundary.NO_ELEMENT, () -> chains(61, 1), g -> g.best(0));
        Boundary.due('p', chains(31, 30).best(0));
        Boundary.due(31, chains(31, 30).reduce(0, 'p', 60));
        Boundary.refused(Boundary.UNSUPPORTED, () -> chains(31, 30), g -> g.reduce(0, 'n', 60));
        Boundary.due(60, chains(30, 30).reduce(0, 'n', 60));
    }

    static void p25ChangesNothing() {
        Boehmgarth g = Boundary.of("(^x.xx)((^y.y)a)");
        g.best(0);
        Boundary.due("@^@AA@^Aa", Boundary.signs(g, 0));
    }

    static void p25RefusesWhatComesToNoEndByAny() {
        Boundary.refused(Boundary.NO_ELEMENT, () -> Boundary.of(Boundary.OMEGA), g -> g.best(0));
        Boundary.refused(Boundary.NO_ELEMENT, () -> Boundary.of("(^x.xxx)(^x.xxx)"), g -> g.best(0));
        Boundary.refused(Boundary.NO_ELEMENT, () -> Boundary.of(TO_201[0]), g -> g.best(0));
        Boundary.refused(Boundary.NO_ELEMENT, () -> toNest(12, 14), g -> g.best(0));
        Boundary.due('n', Boundary.of(TO_200).best(0));
        Boundary.due('n', toNest(12, 13).best(0));
    }

    static void p25ToldFirstIsTheTerm() {
        for (int no : new int[] {-1, 1, 40}) {
            Boundary.refused(Boundary.INDEX, () -> Boundary.of(Boundary.OMEGA), g -> g.best(no));
        }
    }

    // ---- eta

    private static void eta(String text, int gone, String signs) {
        Boehmgarth g = Boundary.of(text);
        Boundary.due(text + " " + gone, text + " " + g.eta(0));
        Boundary.due(text + " " + signs, text + " " + Boundary.signs(g, 0));
        Boundary.due(text + " again 0", text + " again " + g.eta(0));
    }

    static void p26NoneGoes() {
        eta("x", 0, "x");
        eta("fx", 0, "@fx");
        eta("^x.x", 0, "^A");
        eta("^x.f", 0, "^f");
    }

    static void p26TheArgumentIsJustItsOwnLetter() {
        eta("^x.fx", 1, "f");
        eta("^x.fy", 0, "^@fy");
        eta("^x.f(gx)", 0, "^@f@gA");
        eta("^x.f(^y.x)", 0, "^@f^B");
        eta("^x.^y.fx", 0, "^^@fB");
        eta("^x.x(^y.y)", 0, "^@A^A");
    }

    static void p26TheLetterIsNotInTheLeftPart() {
        eta("^x.xx", 0, "^@AA");
        eta("^x.fxx", 0, "^@@fAA");
        eta("^x.(^y.x)x", 0, "^@^BA");
        eta("^x.(^y.y)x", 1, "^A");
        eta("^x.f(^x.x)x", 1, "@f^A");
    }

    static void p26InsideFirstOnTheWayUp() {
        eta("^x.^y.fxy", 2, "f");
        eta("^x.^y.^z.fxyz", 3, "f");
        eta("^x.f(^y.xy)", 2, "f");
        eta("^x.(^y.fy)x", 2, "f");
        eta("^x.^y.fyx", 0, "^^@@fAB");
    }

    static void p26EverywhereInATerm() {
        eta("a(^x.bx)(^x.cx)", 2, "@@abc");
        eta("^z.(^x.zx)(^y.^x.yx)", 2, "^@A^A");
        eta("(^x.fx)y", 1, "@fy");
    }

    static void p26LettersBoundOutsideStayBoundThere() {
        eta("^a.^b.^x.abx", 2, "^A");
        eta("^a.^b.a(^x.bax)", 1, "^^@B@AB");
        eta("^a.^b.^c.c(^x.abx)", 1, "^^^@A@CB");
        eta("^a.^x.(^z.zaz)x", 1, "^^@@ABA");
        eta("^a.^b.^x.b(^z.zab)(^z.b)x", 1, "^^@@A^@@ACB^B");
    }

    static void p26AllOf25AbstractionsGo() {
        String letters = "abcdeghijklmnopqrstuvwxyz";
        Boehmgarth g = Boundary.of("f" + letters);
        int last = 0;
        for (int i = letters.length() - 1; i >= 0; i--) {
            last = g.abstraction(last, letters.charAt(i));
        }
        Boundary.due(25, g.eta(last));
        Boundary.due("f", Boundary.signs(g, last));
    }

    static void p26TheGreatestTermShrinks() {
        Boehmgarth g = Boundary.of(Boundary.times(49, "y"), Boundary.times(50, "y"), "x");
        int term = g.abstraction(g.apply(g.apply(1, 0), 2), 'x');
        Boundary.due(200, g.size(term));
        Boundary.due(1, g.eta(term));
        Boundary.due(197, g.size(term));
        Boundary.due(0, g.eta(term));
    }

    static void p26RefusesATermThatIsNotThere() {
        for (int no : new int[] {-1, 1, 40}) {
            Boundary.refused(Boundary.INDEX, () -> Boundary.of("^x.fx"), g -> g.eta(no));
        }
    }

    public static void main(String[] args) {
        Boundary.run(StepBoundaries.class);
    }
}
