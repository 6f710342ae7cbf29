import java.math.BigInteger;

/** The boundary cases of the promises 39 to 43, and those that hold for all promises. */
public final class FigureBoundaries {
    // ---- checksum

    /** The sum as the document tells it, without an end to its numbers, and then what of it a long can hold. */
    private static long sumOf(String... terms) {
        BigInteger times = BigInteger.valueOf(31);
        BigInteger sum = BigInteger.ZERO;
        for (String signs : terms) {
            for (char sign : signs.toCharArray()) {
                sum = sum.multiply(times).add(BigInteger.valueOf(sign));
            }
            sum = sum.multiply(times);
        }
        return sum.longValue();
    }

    static void p39Is0AtFirst() {
        Boundary.due(0L, new Boehmgarth().checksum());
        Boundary.due(0L, Boundary.typed("xyz").checksum());
    }

    static void p39OneTermOfOneSign() {
        Boundary.due(120L * 31, Boundary.of("x").checksum());
        Boundary.due(97L * 31, Boundary.of("a").checksum());
        Boundary.due(122L * 31, Boundary.of("z").checksum());
    }

    static void p39EachSignCountsByItsNumber() {
        Boundary.due(sumOf("^^@BA"), Boundary.of("^x.^y.xy").checksum());
        Boundary.due((((94L * 31 + 64) * 31 + 65) * 31 + 120) * 31, Boundary.of("^y.yx").checksum());
    }

    static void p39BehindEachTermItIsTakenTimes31() {
        Boundary.due(sumOf("x", "y"), Boundary.of("x", "y").checksum());
        Boundary.due((120L * 31 * 31 + 121) * 31, Boundary.of("x", "y").checksum());
        Boundary.due((121L * 31 * 31 + 120) * 31, Boundary.of("y", "x").checksum());
    }

    static void p39WrapsAround() {
        // The greatest sum of a long is passed by the sign that is the twelfth or thirteenth.
        boolean isNegative = false;
        for (int letters = 1; letters <= 60; letters++) {
            String text = Boundary.times(letters, "z");
            long sum = Boundary.of(text).checksum();
            Boundary.due(sumOf(Boundary.times(letters - 1, "@") + text), sum);
            isNegative = isNegative || sum < 0;
        }
        Boundary.due(true, isNegative);
    }

    static void p39WrapsAroundWithTheGreatestTerm() {
        Boehmgarth g = Boundary.of(Boundary.times(50, "y"));
        g.copy(g.abstraction(g.apply(0, 0), 'x'), 0);
        g.copy(0, 1);
        g.copy(0, 2);
        String half = Boundary.times(49, "@") + Boundary.times(50, "y");
        String great = "^@" + half + half;
        Boundary.due(200, great.length());
        Boundary.due(sumOf(great, great, great), g.checksum());
    }

    static void p39WrapsAroundWith40Terms() {
        Boehmgarth g = new Boehmgarth();
        String[] signs = new String[40];
        for (int i = 0; i < 40; i++) {
            g.number(i % 21);
            signs[i] = "^^" + Boundary.times(i % 21, "@B") + "A";
        }
        Boundary.due(sumOf(signs), g.checksum());
    }

    static void p39AsksNothingOfTheBuffer() {
        Boehmgarth g = Boundary.of("xy");
        long before = g.checksum();
        Boundary.type(g, "zz");
        Boundary.due(before, g.checksum());
    }

    static void p39FollowsWhatBecomesOfTerms() {
        Boehmgarth g = Boundary.of("(^x.xx)a", "y", "^x.bx");
        g.step(0, 'n');
        g.eta(2);
        Boundary.due(sumOf("@aa", "y", "b"), g.checksum());
        g.copy(0, 1);
        Boundary.due(sumOf("@aa", "@aa", "b"), g.checksum());
    }

    // ---- terms

    static void p40From0To40() {
        Boehmgarth g = new Boehmgarth();
        for (int i = 0; i < 40; i++) {
            Boundary.due(i, g.terms());
            g.number(0);
        }
        Boundary.due(40, g.terms());
        Boundary.answer(g, x -> x.number(0));
        Boundary.due(40, g.terms());
    }

    static void p40CountsNoBufferAndNoCopy() {
        Boehmgarth g = Boundary.of("x", "y");
        Boundary.type(g, "z");
        g.copy(0, 1);
        Boundary.due(2, g.terms());
    }

    // ---- normalShare

    static void p41RefusesAGarthWithoutTerms() {
        Boundary.refused(Boundary.ARITHMETIC, Boehmgarth::new, Boehmgarth::normalShare);
        Boundary.refused(Boundary.ARITHMETIC, () -> Boundary.typed("x"), Boehmgarth::normalShare);
    }

    static void p41NoneAndAllAreNormal() {
        Boundary.due(0f, Boundary.of("(^x.x)y").normalShare());
        Boundary.due(0f, Boundary.of("(^x.x)y", "^u.u((^x.x)y)").normalShare());
        Boundary.due(1f, Boundary.of("x").normalShare());
        Boundary.due(1f, Boundary.full().normalShare());
    }

    static void p41NormalByNIsMeant() {
        // Normal by h and w, but not by n.
        Boundary.due(0f, Boundary.of("x((^y.y)z)").normalShare());
        Boundary.due(0f, Boundary.of("^x.(^y.y)z").normalShare());
    }

    static void p41DividedAsFloats() {
        Boundary.due(1f / 3f, Boundary.of("x", "(^x.x)y", "(^x.x)z").normalShare());
        Boundary.due(2f / 3f, Boundary.of("x", "(^x.x)y", "z").normalShare());
        for (int terms = 2; terms <= 40; terms++) {
            Boehmgarth g = Boundary.filledTo(terms, Boundary.of("(^x.x)y"));
            Boundary.due((float) (terms - 1) / (float) terms, g.normalShare());
        }
    }

    // ---- meanSize

    static void p42RefusesAGarthWithoutTerms() {
        Boundary.refused(Boundary.ARITHMETIC, Boehmgarth::new, Boehmgarth::meanSize);
        Boundary.refused(Boundary.ARITHMETIC, () -> Boundary.typed("x"), Boehmgarth::meanSize);
    }

    static void p42OfTheSmallestAndTheGreatest() {
        Boundary.due(1d, Boundary.of("x").meanSize());
        Boehmgarth g = Boundary.of("u", "v");
        int great = Boundary.addOfSize(g, 200);
        for (int i = 0; i < great; i++) {
            g.copy(great, i);
        }
        Boundary.due(200d, g.meanSize());
        while (g.terms() < 40) {
            g.copy(great, g.number(0));
        }
        Boundary.due(200d, g.meanSize());
    }

    static void p42DividedAsDoubles() {
        Boundary.due(7d / 3d, Boundary.of("x", "xx", "xx").meanSize());
        Boundary.due(4d / 3d, Boundary.of("x", "x", "^x.x").meanSize());
        for (int terms = 2; terms <= 40; terms++) {
            Boehmgarth g = Boundary.filledTo(terms, Boundary.of("x"));
            Boundary.due((double) (1 + 3 * (terms - 1)) / (double) terms, g.meanSize());
        }
    }

    // ---- isSound

    static void p43AnEmptyAndAFullGarth() {
        Boundary.due(true, new Boehmgarth().isSound());
        Boundary.due(true, Boundary.full().isSound());
        Boundary.due(true, Boundary.typed(Boundary.times(60, "(")).isSound());
    }

    static void p43TheGreatestAndTheDeepestTerms() {
        Boundary.due(true, Boundary.ofSize(200).isSound());
        Boundary.due(true, Boundary.ofNest(25).isSound());
    }

    static void p43BehindCallsThatAreRefused() {
        Boehmgarth g = Boundary.ofSize(200);
        Boundary.answer(g, x -> x.abstraction(Boundary.last(x), 'x'));
        Boundary.answer(g, x -> x.apply(0, Boundary.last(x)));
        Boundary.answer(g, x -> x.reduce(0, 'n', 0));
        Boundary.due(true, g.isSound());
    }

    // ---- all

    static void all512Calls() {
        Boehmgarth g = new Boehmgarth();
        int calls = 0;
        while (calls < 510) {
            Boundary.due(1, g.type('x'));
            Boundary.due(1, g.clear());
            calls += 2;
        }
        Boundary.due(0, g.number(20));
        Boundary.due(43, g.size(0));
    }

    static void all512CallsOfDearOnes() {
        Boehmgarth g = Boundary.of(Boundary.THREEFOLD);
        int calls = Boundary.THREEFOLD.length() + 1;
        while (calls < 510) {
            Boundary.due(80, g.treeSigns(0, 3));
            Boundary.due(Boundary.UNSUPPORTED.getName(), Boundary.answer(g, x -> x.separated(0, 0)));
            Boundary.due(Boundary.NO_ELEMENT.getName(), Boundary.answer(g, x -> x.best(0)));
            calls += 3;
        }
        Boundary.due(true, g.step(0, 'n'));
    }

    static void allCallsThatAreRefusedLeaveWhatIsWorkedOn() {
        // What a call that is refused began with must not be met by the next one.
        Boehmgarth g = Boundary.of(Boundary.THREEFOLD, "^x.xy", "xx", Boundary.OMEGA);
        for (int round = 0; round < 3; round++) {
            Boundary.answer(g, x -> x.treeSigns(0, 4));
            Boundary.due(4, g.treeSigns(1, 2));
            Boundary.answer(g, x -> x.typeAt(2, 0));
            Boundary.due('>', g.typeAt(1, 0));
            Boundary.answer(g, x -> x.betas(3, true));
            Boundary.due(0, g.betas(1, false));
            Boundary.answer(g, x -> x.betas(3, false));
            Boundary.due(0, g.betas(1, true));
            Boundary.answer(g, x -> x.reduce(3, 'a', 60));
            Boundary.due(0, g.reduce(1, 'n', 1));
        }
    }

    static void allTermsStayAsOthersAreMade() {
        Boehmgarth g = Boundary.of("(^x.xx)a", "^y.ya");
        g.apply(0, 1);
        g.abstraction(0, 'a');
        g.put(0, 'a', 1);
        Boundary.due("@^@AAa", Boundary.signs(g, 0));
        Boundary.due("^@Aa", Boundary.signs(g, 1));
        g.step(2, 'n');
        g.step(4, 'n');
        Boundary.due("@^@AAa", Boundary.signs(g, 0));
    }

    public static void main(String[] args) {
        Boundary.run(FigureBoundaries.class);
    }
}
