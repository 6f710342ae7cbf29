/** The boundary cases of the promises 27 to 38: trees, types, combinators and machines. */
public final class MeaningBoundaries {
    /** What comes of it has 200 signs. */
    private static final String TO_200 = "(^x.^u.xxxxxxxxxx)(yyyyyyyyyy)";
    private static final String TO_201 = "(^x.^u.^v.xxxxxxxxxx)(yyyyyyyyyy)";

    /** Each of its trees has eight abstractions more inside one another to each depth more. */
    private static final String EIGHTS = "(^y.yy)(^x.^a.^a.^a.^a.^a.^a.^a.^a.a(xx))";

    /** What comes of its head has so many abstractions more inside one another than the argument. */
    private static Boehmgarth toNest(int body, int argument) {
        Boehmgarth g = Boundary.of("x");
        int abstraction = g.abstraction(Boundary.addNested(g, body), 'x');
        g.copy(g.apply(abstraction, Boundary.addNested(g, argument)), 0);
        return g;
    }

    /** The identity applied to itself and so on, so many in all, and then to a: so many steps to a. */
    private static Boehmgarth identities(int times) {
        Boehmgarth g = Boundary.of(Boundary.times(times, "i") + "a", "^x.x");
        g.copy(g.put(0, 'i', 1), 0);
        return g;
    }

    /** The same, each in an argument of y. */
    private static Boehmgarth identitiesInArguments(int first, int second) {
        Boehmgarth g = Boundary.of("y(" + Boundary.times(first, "i") + "a)(" + Boundary.times(second, "i") + "a)", "^x.x");
        g.copy(g.put(0, 'i', 1), 0);
        return g;
    }

    private static Boehmgarth under(int abstractions, String text) {
        Boehmgarth g = Boundary.of(text);
        int last = 0;
        for (int i = 0; i < abstractions; i++) {
            last = g.abstraction(last, 'q');
        }
        g.copy(last, 0);
        return g;
    }

    // ---- isSolved

    static void p27Takes20StepsAndNot21() {
        Boundary.due(true, identities(1).isSolved(0));
        Boundary.due(true, identities(19).isSolved(0));
        Boundary.due(true, identities(20).isSolved(0));
        Boundary.due(false, identities(21).isSolved(0));
    }

    static void p27Takes200SignsOnTheWayAndNot201() {
        Boundary.due(true, Boundary.of(TO_200).isSolved(0));
        Boundary.due(false, Boundary.of(TO_201).isSolved(0));
        // Too great on the way, though it would shrink then.
        Boundary.due(true, Boundary.of("(^x.(^z.y)(xxxxxxxxx))(yyyyyyyyyy)").isSolved(0));
        Boundary.due(false, Boundary.of("(^x.(^z.y)(xxxxxxxxxxx))(yyyyyyyyyy)").isSolved(0));
    }

    static void p27Takes25AbstractionsOnTheWayAndNot26() {
        Boundary.due(true, toNest(12, 13).isSolved(0));
        Boundary.due(false, toNest(12, 14).isSolved(0));
        Boundary.due(false, toNest(13, 13).isSolved(0));
    }

    static void p27WhatIsSolvedAsItStands() {
        for (int size : new int[] {1, 2, 199, 200}) {
            Boehmgarth g = Boundary.ofSize(size);
            Boundary.due(true, g.isSolved(Boundary.last(g)));
        }
        Boehmgarth deep = Boundary.ofNest(25);
        Boundary.due(true, deep.isSolved(Boundary.last(deep)));
        Boundary.due(true, Boundary.of("x(" + Boundary.OMEGA + ")").isSolved(0));
    }

    static void p27WhatComesToNoEndIsNot() {
        Boundary.due(false, Boundary.of(Boundary.OMEGA).isSolved(0));
        Boundary.due(false, Boundary.of("^y." + Boundary.OMEGA).isSolved(0));
        Boundary.due(false, Boundary.of(Boundary.OMEGA + "x").isSolved(0));
    }

    static void p27TheTreeMayBeTooGreatToBeTold() {
        Boundary.due(true, Boundary.of(Boundary.THREEFOLD).isSolved(0));
    }

    static void p27ChangesNothing() {
        Boehmgarth g = identities(20);
        long before = g.checksum();
        g.isSolved(0);
        Boundary.due(before, g.checksum());
    }

    static void p27RefusesATermThatIsNotThere() {
        for (int no : new int[] {-1, 1, 40}) {
            Boundary.refused(Boundary.INDEX, () -> Boundary.of("x"), g -> g.isSolved(no));
        }
    }

    // ---- treeSigns

    static void p28ToTheDepth0ItIsOneSignWhateverTheTerm() {
        for (String text : new String[] {"x", "^x.x", Boundary.OMEGA, Boundary.THREEFOLD, TO_201}) {
            Boundary.due(1, Boundary.of(text).treeSigns(0, 0));
            Boundary.due("?", Boundary.treeOf(text, 0));
        }
        Boehmgarth g = Boundary.ofSize(200);
        Boundary.due(1, g.treeSigns(Boundary.last(g), 0));
    }

    static void p28TakesDepthsFrom0To4() {
        Boehmgarth g = Boundary.of("^f.(^x.f(xx))(^x.f(xx))");
        int[] signs = {1, 4, 6, 8, 10};
        for (int depth = 0; depth <= 4; depth++) {
            Boundary.due(signs[depth], g.treeSigns(0, depth));
        }
        for (int depth : new int[] {-1, 5, 6, Integer.MIN_VALUE, Integer.MAX_VALUE}) {
            Boundary.refused(Boundary.ARGUMENT, () -> Boundary.of("x"), x -> x.treeSigns(0, depth));
        }
    }

    static void p28WithoutAHeadNormalFormItIsOneSign() {
        Boundary.due("?", Boundary.treeOf(Boundary.OMEGA, 4));
        Boundary.due("?", Boundary.treeOf("^x." + Boundary.OMEGA, 4));
        Boundary.due("@x?", Boundary.treeOf("x(" + Boundary.OMEGA + ")", 4));
        Boundary.due("?", Boundary.treeOf(TO_201, 4));
        Boundary.due(200, Boundary.of(TO_200).treeSigns(0, 4));
    }

    static void p28Takes20StepsAndNot21ForEachArgumentByItself() {
        Boundary.due("a", Boundary.tree(identities(20), 0, 4));
        Boundary.due("?", Boundary.tree(identities(21), 0, 4));
        Boundary.due("@@yaa", Boundary.tree(identitiesInArguments(20, 20), 0, 2));
        Boundary.due("@@y?a", Boundary.tree(identitiesInArguments(21, 20), 0, 2));
        Boundary.due("@@ya?", Boundary.tree(identitiesInArguments(20, 21), 0, 4));
        Boundary.due("@@y??", Boundary.tree(identitiesInArguments(20, 20), 0, 1));
    }

    static void p28EachArgumentIsLookedAtByItsOwnSize() {
        // 200 signs come of the argument, and then one more sign of it.
        Boundary.due("@@xyb", Boundary.treeOf("x((^z.(^v.y)(zzzzzzzzz))(wwwwwwwwww))b", 2));
        Boundary.due("@@x?b", Boundary.treeOf("x((^z.(^v.y)(zzzzzzzzzzz))(wwwwwwwwww))b", 2));
    }

    /** Comes to y, but before to so many abstractions inside one another, those of the argument and twelve. */
    private static String shrinking(int argument, String around) {
        Boehmgarth g = Boundary.of(around, "^v.y");
        int body = g.apply(1, Boundary.addNested(g, 12));
        int part = g.apply(g.abstraction(body, 'x'), Boundary.addNested(g, argument));
        return Boundary.tree(g, g.put(0, 'w', part), 2);
    }

    static void p28EachArgumentIsLookedAtByItsOwnAbstractions() {
        Boundary.due("y", shrinking(13, "w"));
        Boundary.due("?", shrinking(14, "w"));
        Boundary.due("^^^^^@zy", shrinking(13, "^a.^a.^a.^a.^a.zw"));
        Boundary.due("^^^^^@z?", shrinking(14, "^a.^a.^a.^a.^a.zw"));
        Boehmgarth fit = toNest(12, 13);
        Boundary.due(30, fit.treeSigns(fit.apply(Boundary.add(fit, "yy"), 0), 2));
        Boehmgarth great = toNest(12, 14);
        Boundary.due("@@yy?", Boundary.tree(great, great.apply(Boundary.add(great, "yy"), 0), 2));
    }

    static void p28Takes200SignsAndNot201() {
        // The argument comes to 198 signs: an abstraction, 99 letters and 98 applications.
        String argument = "(^x.^u.xxxxxxxxxzzzzzzzzz)(yyyyyyyyyy)";
        for (int depth = 3; depth <= 4; depth++) {
            int to = depth;
            Boundary.due(200, Boundary.of("x(" + argument + ")").treeSigns(0, to));
            Boundary.refused(Boundary.UNSUPPORTED, () -> Boundary.of("^v.x(" + argument + ")"), g -> g.treeSigns(0, to));
            Boundary.refused(Boundary.UNSUPPORTED, () -> Boundary.of("x(" + argument + ")a"), g -> g.treeSigns(0, to));
            Boundary.refused(Boundary.UNSUPPORTED, () -> Boundary.of("xa(" + argument + ")"), g -> g.treeSigns(0, to));
        }
        Boundary.due(57, Boundary.of("^v.x(" + argument + ")").treeSigns(0, 2));
        Boundary.due(4, Boundary.of("^v.x(" + argument + ")").treeSigns(0, 1));
    }

    static void p28ATreeTooGreatToADepthIsToldToALesserOne() {
        Boehmgarth g = Boundary.of(Boundary.THREEFOLD);
        Boundary.due(80, g.treeSigns(0, 3));
        Boundary.refused(Boundary.UNSUPPORTED, () -> Boundary.of(Boundary.THREEFOLD), x -> x.treeSigns(0, 4));
    }

    static void p28Takes25AbstractionsInsideOneAnotherAndNot26() {
        Boundary.due(32, under(1, EIGHTS).treeSigns(0, 3));
        Boundary.refused(Boundary.UNSUPPORTED, () -> under(2, EIGHTS), g -> g.treeSigns(0, 3));
        Boundary.refused(Boundary.UNSUPPORTED, () -> under(1, EIGHTS), g -> g.treeSigns(0, 4));
        Boundary.due(23, under(2, EIGHTS).treeSigns(0, 2));
        Boehmgarth deep = Boundary.ofNest(25);
        Boundary.due(26, deep.treeSigns(Boundary.last(deep), 1));
    }

    static void p28TheGreatestTerms() {
        for (int size : new int[] {199, 200}) {
            Boehmgarth g = Boundary.ofSize(size);
            Boundary.due(size, g.treeSigns(Boundary.last(g), 4));
            // The head, 49 arguments of one letter and one of fifty.
            Boundary.due(size - 98, g.treeSigns(Boundary.last(g), 1));
        }
    }

    static void p28ToldFirstIsTheTermThenTheDepthThenTheSize() {
        for (int no : new int[] {-1, 1, 40}) {
            Boundary.refused(Boundary.INDEX, () -> Boundary.of("x"), g -> g.treeSigns(no, 5));
            Boundary.refused(Boundary.INDEX, () -> Boundary.of("x"), g -> g.treeSigns(no, 4));
        }
        Boundary.refused(Boundary.ARGUMENT, () -> Boundary.of(Boundary.THREEFOLD), g -> g.treeSigns(0, 5));
        Boundary.refused(Boundary.ARGUMENT, () -> Boundary.of(Boundary.THREEFOLD), g -> g.treeSigns(0, -1));
    }

    // ---- treeAt

    static void p29TheFirstAndTheLastSignAndNotThoseNextToThem() {
        String text = "x((^z.z)a)";
        String[] trees = {"?", "@x?", "@xa", "@xa", "@xa"};
        for (int depth = 0; depth <= 4; depth++) {
            int to = depth;
            Boundary.due(trees[depth], Boundary.treeOf(text, depth));
            int signs = trees[depth].length();
            for (int index : new int[] {-1, signs, signs + 1, 200, Integer.MIN_VALUE, Integer.MAX_VALUE}) {
                Boundary.refused(Boundary.NO_ELEMENT, () -> Boundary.of(text), g -> g.treeAt(0, to, index));
            }
        }
    }

    static void p29TheLastOf200Signs() {
        Boehmgarth g = Boundary.ofSize(200);
        int term = Boundary.last(g);
        Boundary.due('x', g.treeAt(term, 3, 199));
        Boundary.due('?', g.treeAt(term, 2, 199));
        Boundary.refused(Boundary.NO_ELEMENT, () -> Boundary.ofSize(200), x -> x.treeAt(Boundary.last(x), 3, 200));
    }

    static void p29ALetterBoundOutsideOfAnArgumentIsBoundThere() {
        Boundary.due("^^@@Bz^@CA", Boundary.treeOf("^x.^y.(^u.uz)x(^v.(^w.w)xv)", 3));
        Boundary.due("^@A^@B^@@CCA", Boundary.treeOf("^x.x(^y.x(^z.(^u.ux)(^v.xv)z))", 4));
        Boundary.due("^^@@A?B", Boundary.treeOf("^x.^y.y(" + Boundary.OMEGA + ")x", 3));
        Boundary.due("^@A^^@CB", Boundary.treeOf("^x.x(^y.^z.(^u.u)xy)", 3));
    }

    static void p29ToldFirstIsTheTermThenTheDepthThenTheSizeThenTheSign() {
        Boundary.Making great = () -> Boundary.of(Boundary.THREEFOLD);
        for (int no : new int[] {-1, 1, 40}) {
            Boundary.refused(Boundary.INDEX, great, g -> g.treeAt(no, 5, -1));
            Boundary.refused(Boundary.INDEX, great, g -> g.treeAt(no, 4, 0));
        }
        for (int depth : new int[] {-1, 5, Integer.MIN_VALUE, Integer.MAX_VALUE}) {
            Boundary.refused(Boundary.ARGUMENT, great, g -> g.treeAt(0, depth, -1));
            Boundary.refused(Boundary.ARGUMENT, great, g -> g.treeAt(0, depth, 0));
        }
        Boundary.refused(Boundary.UNSUPPORTED, great, g -> g.treeAt(0, 4, -1));
        Boundary.refused(Boundary.UNSUPPORTED, great, g -> g.treeAt(0, 4, 0));
        Boundary.refused(Boundary.UNSUPPORTED, () -> under(2, EIGHTS), g -> g.treeAt(0, 3, 0));
        Boundary.refused(Boundary.NO_ELEMENT, great, g -> g.treeAt(0, 3, 80));
        Boundary.due('^', great.make().treeAt(0, 3, 0));
    }

    // ---- unlikeAt

    static void p30TheFirstAndTheLastSignCanBeUnlike() {
        Boehmgarth g = Boundary.of("x", "y", "^x.x", "xab", "xac", "xbb", "yab");
        Boundary.due(0, g.unlikeAt(0, 1, 1));
        Boundary.due(0, g.unlikeAt(0, 2, 4));
        Boundary.due(4, g.unlikeAt(3, 4, 2));
        Boundary.due(3, g.unlikeAt(3, 5, 2));
        Boundary.due(2, g.unlikeAt(3, 6, 2));
        Boundary.due(0, g.unlikeAt(0, 3, 1));
    }

    static void p30TheLastOf199Signs() {
        Boehmgarth g = Boundary.of(Boundary.times(50, "x"), Boundary.times(49, "x") + "y");
        int one = g.apply(0, 0);
        int other = g.apply(0, 1);
        Boundary.due(198, g.unlikeAt(one, other, 4));
        Boundary.due(198, g.unlikeAt(other, one, 3));
        Boundary.refused(Boundary.NO_ELEMENT, () -> Boundary.of(Boundary.times(50, "x"), Boundary.times(50, "x")),
                x -> x.unlikeAt(0, 1, 4));
    }

    static void p30TheFirstOfSeveralIsTold() {
        Boehmgarth g = Boundary.of("xaaa", "xbab", "^x.xa", "^x.ax");
        Boundary.due(4, g.unlikeAt(0, 1, 4));
        Boundary.due(2, g.unlikeAt(2, 3, 4));
    }

    static void p30WhatIsUnlikeToADepthIsAlikeToALesserOne() {
        String[] texts = {"x(x(xa))", "x(x(xb))"};
        for (int depth = 0; depth < 4; depth++) {
            int to = depth;
            Boundary.refused(Boundary.NO_ELEMENT, () -> Boundary.of(texts), g -> g.unlikeAt(0, 1, to));
        }
        Boundary.due(6, Boundary.of(texts).unlikeAt(0, 1, 4));
    }

    static void p30TheSameTermIsAlike() {
        for (int depth = 0; depth <= 4; depth++) {
            int to = depth;
            Boundary.refused(Boundary.NO_ELEMENT, () -> Boundary.of("^x.xy"), g -> g.unlikeAt(0, 0, to));
            Boundary.refused(Boundary.NO_ELEMENT, () -> Boundary.of(Boundary.OMEGA, TO_201), g -> g.unlikeAt(0, 1, to));
        }
    }

    static void p30RefusesATreeThatIsTooGreatForEither() {
        Boundary.Making great = () -> Boundary.of(Boundary.THREEFOLD, "^x.x");
        Boundary.refused(Boundary.UNSUPPORTED, great, g -> g.unlikeAt(0, 1, 4));
        Boundary.refused(Boundary.UNSUPPORTED, great, g -> g.unlikeAt(1, 0, 4));
        Boundary.due(1, great.make().unlikeAt(0, 1, 3));
        Boundary.Making deep = () -> {
            Boehmgarth g = under(2, EIGHTS);
            g.copy(Boundary.add(g, "x"), 1);
            return g;
        };
        Boundary.refused(Boundary.UNSUPPORTED, deep, g -> g.unlikeAt(0, 1, 3));
        Boundary.refused(Boundary.UNSUPPORTED, deep, g -> g.unlikeAt(1, 0, 3));
        Boundary.due(0, deep.make().unlikeAt(1, 0, 2));
    }

    static void p30Takes200SignsAndNot201ForEither() {
        String argument = "((^x.^u.xxxxxxxxxzzzzzzzzz)(yyyyyyyyyy))";
        Boundary.due(0, Boundary.of("x" + argument, "x").unlikeAt(0, 1, 4));
        Boundary.due(0, Boundary.of("x" + argument, "x").unlikeAt(1, 0, 3));
        Boundary.refused(Boundary.UNSUPPORTED, () -> Boundary.of("^v.x" + argument, "x"), g -> g.unlikeAt(0, 1, 4));
        Boundary.refused(Boundary.UNSUPPORTED, () -> Boundary.of("^v.x" + argument, "x"), g -> g.unlikeAt(1, 0, 3));
    }

    static void p30Takes25AbstractionsForEither() {
        Boehmgarth g = under(1, EIGHTS);
        int other = Boundary.add(g, "x");
        Boundary.due(0, g.unlikeAt(0, other, 3));
        Boundary.due(0, g.unlikeAt(other, 0, 3));
        Boehmgarth deep = Boundary.ofNest(25);
        int deepest = Boundary.last(deep);
        Boundary.due(0, deep.unlikeAt(deepest, Boundary.add(deep, "x"), 1));
        Boundary.due(0, deep.unlikeAt(Boundary.last(deep), deepest, 1));
    }

    static void p30ToldFirstIsTheTermThenTheDepthThenTheSizeThenThatTheyAreAlike() {
        Boundary.Making great = () -> Boundary.of(Boundary.THREEFOLD);
        for (int no : new int[] {-1, 1, 40}) {
            Boundary.refused(Boundary.INDEX, great, g -> g.unlikeAt(no, 0, 5));
            Boundary.refused(Boundary.INDEX, great, g -> g.unlikeAt(0, no, 5));
            Boundary.refused(Boundary.INDEX, great, g -> g.unlikeAt(0, no, 4));
            Boundary.refused(Boundary.INDEX, great, g -> g.unlikeAt(no, 0, 0));
        }
        for (int depth : new int[] {-1, 5, Integer.MIN_VALUE, Integer.MAX_VALUE}) {
            Boundary.refused(Boundary.ARGUMENT, great, g -> g.unlikeAt(0, 0, depth));
        }
        Boundary.refused(Boundary.UNSUPPORTED, great, g -> g.unlikeAt(0, 0, 4));
        Boundary.refused(Boundary.NO_ELEMENT, great, g -> g.unlikeAt(0, 0, 3));
    }

    // ---- separated

    static void p31DepthsFrom1To4AndNotBeyond() {
        String[] one = {"a", "x(a)", "x(xa)", "x(x(xa))", "x(x(x(xa)))"};
        String[] other = {"b", "x(b)", "x(xb)", "x(x(xb))", "x(x(x(xb)))"};
        for (int i = 0; i < 4; i++) {
            Boundary.due(i + 1, Boundary.of(one[i], other[i]).separated(0, 1));
            Boundary.due(i + 1, Boundary.of(one[i], other[i]).separated(1, 0));
        }
        Boundary.refused(Boundary.NO_ELEMENT, () -> Boundary.of(one[4], other[4]), g -> g.separated(0, 1));
    }

    static void p31TheSameAndTheUnsolvedAreAlike() {
        Boundary.refused(Boundary.NO_ELEMENT, () -> Boundary.of("^x.xy"), g -> g.separated(0, 0));
        Boundary.refused(Boundary.NO_ELEMENT, () -> Boundary.of(Boundary.OMEGA, "^x." + Boundary.OMEGA),
                g -> g.separated(0, 1));
        Boundary.refused(Boundary.NO_ELEMENT, () -> Boundary.of("(^x.x)y", "y"), g -> g.separated(0, 1));
        Boundary.due(1, Boundary.of(Boundary.OMEGA, "x").separated(0, 1));
        Boundary.due(1, Boundary.of("x", "^y.xy").separated(0, 1));
    }

    static void p31LooksFromTheDepth0OnAndNotFurtherThanItMust() {
        // To the depth 4 one tree is too great, but they are unlike before.
        Boundary.due(1, Boundary.of(Boundary.THREEFOLD, "^x.x").separated(0, 1));
        Boundary.due(2, Boundary.of(Boundary.THREEFOLD, "^f.fabc").separated(0, 1));
        Boundary.refused(Boundary.UNSUPPORTED, () -> Boundary.of(Boundary.THREEFOLD), g -> g.separated(0, 0));
        Boundary.refused(Boundary.UNSUPPORTED,
                () -> Boundary.of(Boundary.THREEFOLD, "(^u.u)(" + Boundary.THREEFOLD + ")"), g -> g.separated(0, 1));
    }

    static void p31TooGreatAtTheDepthAtWhichTheyAreUnlike() {
        // To the depth 3 the one tree has 201 signs, to the depth 2 they are unlike.
        String great = "^v.x((^x.^u.xxxxxxxxxzzzzzzzzz)(yyyyyyyyyy))";
        Boundary.due(2, Boundary.of(great, "^v.xv").separated(0, 1));
        // To the depth 2 both are alike, to the depth 3 the one has too many abstractions.
        Boundary.Making deep = () -> {
            Boehmgarth g = under(2, EIGHTS);
            int unlike = Boundary.add(g, "^q.^a.^a.^a.^a.^a.^a.^a.^a.a(^b.^b.^b.^b.^b.^b.^b.^b.b(bb))");
            g.copy(g.abstraction(unlike, 'q'), 1);
            return g;
        };
        Boundary.refused(Boundary.UNSUPPORTED, deep, g -> g.separated(0, 1));
        Boundary.refused(Boundary.UNSUPPORTED, deep, g -> g.separated(1, 0));
    }

    static void p31Takes25AbstractionsForEither() {
        Boehmgarth g = under(1, EIGHTS);
        int other = Boundary.add(g, "^a.^a.^a.^a.^a.^a.^a.^a.a(^b.^b.^b.^b.^b.^b.^b.^b.b(bb))");
        int around = g.abstraction(other, 'q');
        Boundary.due(3, g.separated(0, around));
        Boundary.due(3, g.separated(around, 0));
    }

    static void p31ToldFirstIsTheTermThenTheSizeThenThatTheyAreAlike() {
        for (int no : new int[] {-1, 1, 40, Integer.MIN_VALUE, Integer.MAX_VALUE}) {
            Boundary.refused(Boundary.INDEX, () -> Boundary.of(Boundary.THREEFOLD), g -> g.separated(no, 0));
            Boundary.refused(Boundary.INDEX, () -> Boundary.of(Boundary.THREEFOLD), g -> g.separated(0, no));
        }
    }

    // ---- hasType, typeAt, arguments

    private static String typeOf(String text) {
        Boehmgarth g = Boundary.of(text);
        StringBuilder signs = new StringBuilder();
        String sign = Boundary.answer(g, x -> x.typeAt(0, 0));
        while (sign.length() == 1) {
            signs.append(sign);
            sign = Boundary.answer(g, x -> x.typeAt(0, signs.length()));
        }
        Boundary.due(Boundary.NO_ELEMENT.getName(), sign);
        return signs.toString();
    }

    static void p32NoTypeIsAPartOfItself() {
        String[] untyped = {"xx", "^x.xx", Boundary.OMEGA, "x(yx)(yy)", "^x.^y.xy(yx)", "x(xy)(yx)", "(^i.ii)(^x.x)",
            "x(^y.y)(^y.yx)"};
        for (String text : untyped) {
            Boundary.due(text + false, text + Boundary.of(text).hasType(0));
        }
        String[] typed = {"x", "xy", "^x.x", "x(^y.y)(^y.yz)", "(^x.x)(^x.x)", "x(xy)", "^x.^y.xy(zyx)", "xy(yz)"};
        for (String text : typed) {
            Boundary.due(text + true, text + Boundary.of(text).hasType(0));
        }
    }

    static void p32AllPlacesOfOneVariableHaveOneTypeFreeOrBound() {
        Boundary.due(false, Boundary.of("x(xyz)(x(yz))").hasType(0));
        Boundary.due(true, Boundary.of("(^x.xy)(^z.z)(^x.x)").hasType(0));
        Boundary.due(true, Boundary.of("y(^x.x)((^x.xz)a)").hasType(0));
        Boundary.due(false, Boundary.of("y(xz)(zx)").hasType(0));
    }

    static void p32TheGreatestTerms() {
        Boehmgarth g = Boundary.of("yx", "x");
        int term = 0;
        for (int i = 0; i < 30; i++) {
            term = g.put(term, 'x', 0);
        }
        Boundary.due(63, g.size(term));
        Boundary.due(true, g.hasType(term));
        Boehmgarth great = Boundary.ofSize(200);
        Boundary.due(false, great.hasType(Boundary.last(great)));
        Boehmgarth deep = Boundary.ofNest(25);
        Boundary.due(true, deep.hasType(Boundary.last(deep)));
    }

    static void p32WhatIsTooGreatToBeToldHasAType() {
        Boundary.due(true, letters27().hasType(0));
        Boundary.due(true, signs401().hasType(0));
    }

    static void p32RefusesATermThatIsNotThere() {
        for (int no : new int[] {-1, 1, 40}) {
            Boundary.refused(Boundary.INDEX, () -> Boundary.of("x"), g -> g.hasType(no));
        }
    }

    /** A type of 26 letters: that of z has 25 for its arguments, and one for what comes of it. */
    private static Boehmgarth letters26() {
        return Boundary.of("^z.zabcdefghijklmnopqrstuvwxy");
    }

    private static Boehmgarth letters27() {
        return Boundary.of("^z.zabcdefghijklmnopqrstuvwxy(^x.x)");
    }

    private static final String TYPE_OF_26 = ">" + ">a>b>c>d>e>f>g>h>i>j>k>l>m>n>o>p>q>r>s>t>u>v>w>x>yzz";

    static void p33Takes26LettersAndNot27() {
        Boundary.due(TYPE_OF_26, typeOf("^z.zabcdefghijklmnopqrstuvwxy"));
        Boundary.refused(Boundary.UNSUPPORTED, MeaningBoundaries::letters27, g -> g.typeAt(0, 0));
        Boundary.due(26 * 2 + 1, TYPE_OF_26.length());
    }

    /** A triple has a type of 6 signs and three times those of what is in it, a pair one of 5 and two times those. */
    private static Boehmgarth signs399() {
        Boehmgarth g = Boundary.of("t(d(t(d(da))))");
        int triple = Boundary.add(g, "^b.^z.zbbb");
        int pair = Boundary.add(g, "^b.^z.zbb");
        g.copy(g.put(g.put(0, 't', triple), 'd', pair), 0);
        return g;
    }

    /** Two signs more: one for the abstraction, and one for its letter. */
    private static Boehmgarth signs401() {
        Boehmgarth g = signs399();
        g.copy(g.abstraction(0, 'w'), 0);
        return g;
    }

    static void p33Takes399SignsAndNot401() {
        Boehmgarth g = signs399();
        Boundary.due(g.typeAt(0, 397), g.typeAt(0, 398));
        Boundary.refused(Boundary.NO_ELEMENT, MeaningBoundaries::signs399, x -> x.typeAt(0, 399));
        Boundary.refused(Boundary.UNSUPPORTED, MeaningBoundaries::signs401, x -> x.typeAt(0, 0));
        Boundary.refused(Boundary.UNSUPPORTED, MeaningBoundaries::signs401, x -> x.typeAt(0, 400));
    }

    static void p33TheFirstAndTheLastSignAndNotThoseNextToThem() {
        Boehmgarth g = Boundary.of("^x.x");
        Boundary.due('>', g.typeAt(0, 0));
        Boundary.due('a', g.typeAt(0, 2));
        for (int index : new int[] {-1, 3, 4, 400, Integer.MIN_VALUE, Integer.MAX_VALUE}) {
            Boundary.refused(Boundary.NO_ELEMENT, () -> Boundary.of("^x.x"), x -> x.typeAt(0, index));
        }
        Boundary.due('a', Boundary.of("x").typeAt(0, 0));
        Boundary.refused(Boundary.NO_ELEMENT, () -> Boundary.of("x"), x -> x.typeAt(0, 1));
    }

    static void p33LettersAsTheyStandFirst() {
        Boundary.due(">a>ba", typeOf("^x.^y.x"));
        Boundary.due(">a>bb", typeOf("^x.^y.y"));
        Boundary.due(">>a>bc>>ab>ac", typeOf("^x.^y.^z.xz(yz)"));
        Boundary.due(">>ab>>ca>cb", typeOf("^f.^g.^x.f(gx)"));
        Boundary.due(">a>>abb", typeOf("^x.^y.yx"));
    }

    static void p33TheMostGeneralOneIsTold() {
        Boundary.due(">aa", typeOf("(^x.x)(^y.y)"));
        Boundary.due("a", typeOf("x(yz)"));
        Boundary.due(">ab", typeOf("^x.yx"));
        Boundary.due(">ab", typeOf("^x.z(yx)"));
    }

    static void p33ToldFirstIsTheTermThenTheTypeThenTheSign() {
        for (int no : new int[] {-1, 1, 40}) {
            Boundary.refused(Boundary.INDEX, () -> Boundary.of("xx"), g -> g.typeAt(no, -1));
            Boundary.refused(Boundary.INDEX, () -> Boundary.of("x"), g -> g.typeAt(no, 0));
        }
        for (int index : new int[] {-1, 0, 400}) {
            Boundary.refused(Boundary.UNSUPPORTED, () -> Boundary.of("xx"), g -> g.typeAt(0, index));
            Boundary.refused(Boundary.UNSUPPORTED, MeaningBoundaries::letters27, g -> g.typeAt(0, index));
            Boundary.refused(Boundary.UNSUPPORTED, MeaningBoundaries::signs401, g -> g.typeAt(0, index));
        }
    }

    static void p34NoArgumentsAndMany() {
        Boundary.due(0, Boundary.of("x").arguments(0));
        Boundary.due(0, Boundary.of("xy").arguments(0));
        Boundary.due(1, Boundary.of("^x.x").arguments(0));
        Boundary.due(1, Boundary.of("^f.f(^x.^y.^z.x)").arguments(0));
        Boundary.due(1, letters26().arguments(0));
        Boehmgarth deep = Boundary.ofNest(25);
        Boundary.due(25, deep.arguments(Boundary.last(deep)));
    }

    static void p34AppliedToTheRightSideOnly() {
        Boundary.due(1, Boundary.of("^x.x(^y.^z.y)").arguments(0));
        Boundary.due(2, Boundary.of("^x.^y.x(xy)").arguments(0));
        Boundary.due(3, Boundary.of("^x.^y.^z.xz(yz)").arguments(0));
    }

    static void p34RefusesWhatHasNoTypeOrOneTooGreat() {
        Boundary.refused(Boundary.UNSUPPORTED, () -> Boundary.of("xx"), g -> g.arguments(0));
        Boundary.refused(Boundary.UNSUPPORTED, MeaningBoundaries::letters27, g -> g.arguments(0));
        Boundary.refused(Boundary.UNSUPPORTED, MeaningBoundaries::signs401, g -> g.arguments(0));
        Boundary.due(1, signs399().arguments(0));
    }

    static void p34ToldFirstIsTheTerm() {
        for (int no : new int[] {-1, 1, 40}) {
            Boundary.refused(Boundary.INDEX, () -> Boundary.of("xx"), g -> g.arguments(no));
        }
    }

    // ---- combinators

    private static String combinatorsOf(String text) {
        Boehmgarth g = Boundary.of(text);
        StringBuilder signs = new StringBuilder();
        int most = g.combinators(0);
        for (int i = 0; i < most; i++) {
            signs.append(g.combinatorAt(0, i));
        }
        return signs.toString();
    }

    static void p35TakingALetterOut() {
        Boundary.due("I", combinatorsOf("^x.x"));
        Boundary.due("@Ky", combinatorsOf("^x.y"));
        Boundary.due("@K@yz", combinatorsOf("^x.yz"));
        Boundary.due("y", combinatorsOf("^x.yx"));
        Boundary.due("@yz", combinatorsOf("^x.yzx"));
        Boundary.due("@@SII", combinatorsOf("^x.xx"));
        Boundary.due("@@SI@Ky", combinatorsOf("^x.xy"));
        Boundary.due("@@S@@SI@KyI", combinatorsOf("^x.xyx"));
        Boundary.due("@@S@Ky@@SII", combinatorsOf("^x.y(xx)"));
        Boundary.due("@xy", combinatorsOf("xy"));
    }

    static void p35InsideFirst() {
        Boundary.due("K", combinatorsOf("^x.^y.x"));
        Boundary.due("@KI", combinatorsOf("^x.^y.y"));
        Boundary.due("I", combinatorsOf("^x.^y.xy"));
        Boundary.due("S", combinatorsOf("^x.^y.^z.xz(yz)"));
        Boundary.due("@@S@K@SIK", combinatorsOf("^x.^y.yx"));
    }

    /** 100 letters x under an abstraction, but so many others in the place of the last ones. */
    private static Boehmgarth lettersTakenOut(int others) {
        Boehmgarth g = Boundary.of(Boundary.times(50, "x"));
        int half = Boundary.add(g, Boundary.times(50 - others, "x") + Boundary.times(others, "y"));
        g.copy(g.abstraction(g.apply(0, half), 'x'), 0);
        return g;
    }

    static void p35Takes399SignsAndNot401() {
        Boundary.due(397, lettersTakenOut(0).combinators(0));
        Boundary.due(399, lettersTakenOut(1).combinators(0));
        Boundary.refused(Boundary.UNSUPPORTED, () -> lettersTakenOut(2), g -> g.combinators(0));
    }

    /** Of more than 400 signs on the way, and with 399 signs then. */
    private static Boehmgarth tooGreatOnTheWay() {
        Boehmgarth g = Boundary.of("^x.^y.yxzyyxzyzxzzyyyzzyzzyzxzyzyzzyxxy");
        g.copy(g.abstraction(g.apply(0, Boundary.add(g, "w")), 'w'), 0);
        return g;
    }

    static void p35APartOfMoreThan400SignsOnTheWayIsRefused() {
        Boundary.refused(Boundary.UNSUPPORTED, MeaningBoundaries::tooGreatOnTheWay, g -> g.combinators(0));
        Boehmgarth g = tooGreatOnTheWay();
        g.eta(0);
        Boundary.due(399, g.combinators(0));
    }

    static void p35AnApplicationOfMoreThan400SignsIsRefused() {
        String text = "^x.^y.yxzyyxzyzxzzyyyzzyzzyzxzyzyzzyxx";
        Boundary.due(397, Boundary.of(text + "x").combinators(0));
        Boundary.due(399, Boundary.of(text + "y").combinators(0));
        Boundary.due(399, applied(text + "x").combinators(0));
        Boundary.refused(Boundary.UNSUPPORTED, () -> applied(text + "y"), g -> g.combinators(0));
    }

    private static Boehmgarth applied(String text) {
        Boehmgarth g = Boundary.of(text, "w");
        g.copy(g.apply(0, 1), 0);
        return g;
    }

    static void p35RefusesATermThatIsNotThere() {
        for (int no : new int[] {-1, 1, 40}) {
            Boundary.refused(Boundary.INDEX, () -> Boundary.of("x"), g -> g.combinators(no));
        }
    }

    static void p36TheFirstAndTheLastSignAndNotThoseNextToThem() {
        Boehmgarth g = lettersTakenOut(1);
        Boundary.due('@', g.combinatorAt(0, 0));
        Boundary.due('y', g.combinatorAt(0, 398));
        for (int index : new int[] {-1, 399, 400, Integer.MIN_VALUE, Integer.MAX_VALUE}) {
            Boundary.refused(Boundary.NO_ELEMENT, () -> lettersTakenOut(1), x -> x.combinatorAt(0, index));
        }
        for (int index : new int[] {-1, 1, 2}) {
            Boundary.refused(Boundary.NO_ELEMENT, () -> Boundary.of("^x.x"), x -> x.combinatorAt(0, index));
        }
    }

    static void p36ToldFirstIsTheTermThenTheSizeThenTheSign() {
        for (int no : new int[] {-1, 1, 40}) {
            Boundary.refused(Boundary.INDEX, () -> Boundary.of("x"), g -> g.combinatorAt(no, -1));
            Boundary.refused(Boundary.INDEX, () -> Boundary.of("x"), g -> g.combinatorAt(no, 0));
        }
        for (int index : new int[] {-1, 0, 400}) {
            Boundary.refused(Boundary.UNSUPPORTED, () -> lettersTakenOut(2), g -> g.combinatorAt(0, index));
            Boundary.refused(Boundary.UNSUPPORTED, MeaningBoundaries::tooGreatOnTheWay, g -> g.combinatorAt(0, index));
        }
    }

    // ---- machines

    /** 100 betas by name: one, nine times two and nine of the number; by need, nine less one are saved. */
    private static Boehmgarth hundredBetas(int identitiesMore) {
        Boehmgarth g = Boundary.of("^f.f(f(f(f(f(f(f(f(fa))))))))", "^x.x");
        int term = g.apply(0, g.apply(g.number(9), 1));
        for (int i = 0; i < identitiesMore; i++) {
            term = g.apply(1, term);
        }
        g.copy(term, 0);
        return g;
    }

    static void p37NoneAndOne() {
        for (String text : new String[] {"x", "^x.x", "xab", "x((^x.x)a)", "^u.(^x.x)a"}) {
            Boundary.due(0, Boundary.of(text).betas(0, false));
            Boundary.due(0, Boundary.of(text).betas(0, true));
        }
        Boundary.due(1, Boundary.of("(^x.x)a").betas(0, false));
        Boundary.due(1, Boundary.of("(^x.y)(" + Boundary.OMEGA + ")").betas(0, true));
    }

    static void p37Takes100BetasByNameAndNot101() {
        Boundary.due(100, hundredBetas(0).betas(0, false));
        Boundary.refused(Boundary.UNSUPPORTED, () -> hundredBetas(1), g -> g.betas(0, false));
    }

    static void p37Takes100BetasByNeedAndNot101() {
        Boundary.due(92, hundredBetas(0).betas(0, true));
        Boundary.due(100, hundredBetas(8).betas(0, true));
        Boundary.refused(Boundary.UNSUPPORTED, () -> hundredBetas(9), g -> g.betas(0, true));
    }

    static void p37WhatComesToNoEndIsRefused() {
        Boundary.refused(Boundary.UNSUPPORTED, () -> Boundary.of(Boundary.OMEGA), g -> g.betas(0, false));
        Boundary.refused(Boundary.UNSUPPORTED, () -> Boundary.of(Boundary.OMEGA), g -> g.betas(0, true));
        Boundary.refused(Boundary.UNSUPPORTED, () -> Boundary.of("(^x.xxx)(^x.xxx)"), g -> g.betas(0, false));
        Boundary.refused(Boundary.UNSUPPORTED, () -> Boundary.of("(^f.(^x.f(xx))(^x.f(xx)))(^x.x)"), g -> g.betas(0, true));
    }

    static void p37WhatWouldBeTooGreatForAStepIsNot() {
        Boundary.due(1, Boundary.of(TO_201).betas(0, false));
        Boundary.due(1, toNest(12, 14).betas(0, true));
    }

    static void p37ByNeedWhatAnArgumentLedToIsKept() {
        Boehmgarth g = Boundary.of("(^x.xx)((^y.y)(^z.z))", "(^x.x(xa))((^y.y)(^z.z))", "(^x.xx)((^y.y)a)");
        int[] byName = {4, 5, 2};
        int[] byNeed = {3, 4, 2};
        for (int i = 0; i < 3; i++) {
            Boundary.due(byName[i], g.betas(i, false));
            Boundary.due(byNeed[i], g.betas(i, true));
        }
    }

    static void p37ToldFirstIsTheTerm() {
        for (int no : new int[] {-1, 1, 40}) {
            Boundary.refused(Boundary.INDEX, () -> Boundary.of(Boundary.OMEGA), g -> g.betas(no, false));
            Boundary.refused(Boundary.INDEX, () -> Boundary.of(Boundary.OMEGA), g -> g.betas(no, true));
        }
    }

    static void p38NoneAndAsManyAsATermHas() {
        Boundary.due(0, Boundary.of("x").headArguments(0));
        Boundary.due(1, Boundary.of("xa").headArguments(0));
        Boundary.due(59, Boundary.of(Boundary.times(60, "x")).headArguments(0));
        Boehmgarth g = Boundary.ofSize(199);
        Boundary.due(50, g.headArguments(Boundary.last(g)));
    }

    static void p38AnAbstractionIsMinus1() {
        Boundary.due(-1, Boundary.of("^x.xab").headArguments(0));
        Boundary.due(-1, Boundary.of("(^x.^y.x)a").headArguments(0));
        Boundary.due(0, Boundary.of("(^x.^y.x)ab").headArguments(0));
        Boundary.due(1, Boundary.of("(^x.^y.x)abc").headArguments(0));
    }

    static void p38MoreArgumentsThanATermCanHold() {
        Boehmgarth g = Boundary.of("^x.xbbbbbbbbbbbbbbbbbbbbbbbbbbbbbbbbbbbbbbbb", "a");
        Boundary.due(800, g.headArguments(g.apply(g.apply(g.number(20), 0), 1)));
    }

    static void p38Takes100BetasByNameAndNot101() {
        Boundary.due(0, hundredBetas(0).headArguments(0));
        Boundary.refused(Boundary.UNSUPPORTED, () -> hundredBetas(1), g -> g.headArguments(0));
        // By need there would be 93.
        Boundary.due(93, hundredBetas(1).betas(0, true));
        Boundary.refused(Boundary.UNSUPPORTED, () -> Boundary.of(Boundary.OMEGA), g -> g.headArguments(0));
    }

    static void p38ToldFirstIsTheTerm() {
        for (int no : new int[] {-1, 1, 40}) {
            Boundary.refused(Boundary.INDEX, () -> Boundary.of(Boundary.OMEGA), g -> g.headArguments(no));
        }
    }

    public static void main(String[] args) {
        Boundary.run(MeaningBoundaries.class);
    }
}
