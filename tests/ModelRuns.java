import java.util.ArrayList;
import java.util.List;
import java.util.TreeMap;

/** Runs of calls, drawn by a fixed rule, on the class and on the plain model of it: all answers must be the same. */
public final class ModelRuns {
    private static final String[] TEXTS = {
        "x", "^x.x", "^x.^y.x", "^x.^y.^z.xz(yz)", "^x.xx", "(^x.xx)(^x.xx)", "^f.(^x.f(xx))(^x.f(xx))",
        "(^x.^f.f(xxf))(^x.^f.f(xxf))", "(^x.y)((^x.xx)(^x.xx))", "(^x.xxx)(^x.xxx)", "(^x.xx)((^y.y)a)",
        "^x.(^y.y)x", "(^x.^y.xa)((^x.xx)(^x.xx))b", "^x.^y.yx", "(^x.x(xx))(^y.yy)", "^x.fx", "^x.^y.fxy",
        "(^x.^y.xy)y", "^f.^x.f(f(fx))", "(^n.^f.^x.f(nfx))", "(^m.^n.^f.m(nf))", "^m.^n.nm", "a(^x.xb)(^y.cy)",
        "(^x.xx)((^x.xx)((^x.xx)a))", "(^x.xx)((^x.xx)((^x.xx)((^x.xx)(^y.y))))", "^x.^y.^z.z", "(^x.xxxx)(^x.xxxx)",
        "^a.^b.^c.^d.^e.e(dcba)", "(^x.^y.y)((^x.xxx)(^x.xxx))", "(^x.y)(^z.(^x.xxxxxxxxxxxx)(zzzzzzzzzzzz))",
        "(^f.f(f(f(fa))))(^x.xx)", "^p.p(^x.^y.x)(^x.^y.y)", "(^x.x(^y.x))(^z.z)", "(^x.xx)(^x.^y.xx)",
        "(^f.^x.f(f(fx)))(^f.^x.f(f(fx)))", "(^x.x(x(xy)))((^u.u)(^v.v))", "(^x.a)((^z.zz)((^z.zz)((^z.zz)(bcdef))))",
        "^x.^y.^z.x(yz)", "(^p.p(^x.^y.x))(^s.sab)", "(^f.^x.f(fx))(^f.^x.f(fx))(^y.y)z", "(^x.^y.x)(^z.y)",
        "^x.f(^y.xy)x", "^x.(^y.^z.gyz)x", "(^x.^f.f(xxf)(xxf)(xxf))(^x.^f.f(xxf)(xxf)(xxf))",
        "(^y.yy)(^x.^a.^b.^c.^d.^e.^f.^g.a(xx))", "(^y.yy)(^x.^a.^b.^c.^d.^e.^f.^g.^h.a(xx)(xxa))",
        "^z.zabcdefghijklmnopqrstuvwxy(^x.x)", "^z.zabcdefghijklmnopqrstuvwxy", "^a.^b.^c.^d.^e.^f.^g.^h.^i.^j.x",
        "^a.(^b.(^c.(^d.^z.zdd)(^z.zcc))(^z.zbb))(^z.zaa)", "^a.(^b.(^c.(^d.(^e.^z.ze)(^z.zddd))(^z.zccc))(^z.zbbb))(^z.zaaa)",
        "^x.^y.^z.^a.^b.xyzab(xyzab)(yx)(zy)(ba)", "(^x.xx)(^z.(^x.xx)((^x.xx)(zz)))", "(^y.^x.y(yx))((^z.zz)a)",
        "(^x.x(xa)(xb)(xc))(^y.(^z.zz)y)", "(^x.^y.x)((^x.xxxx)((^x.xxxx)(abc)))", "(^x.xx(xx))((^y.yy)((^z.zz)(ab)))",
    };

    /** What later calls answer is free. */
    private static final int MOST_CALLS = 512;

    private final long[] seed = new long[1];
    private int wrong;
    private final TreeMap<String, Integer> tally = new TreeMap<>();

    private int draw(int below) {
        seed[0] = seed[0] * 6364136223846793005L + 1442695040888963407L;
        return (int) ((seed[0] >>> 33) % below);
    }

    /** A text of a term with so many letters at the most. */
    private String drawText(int weight) {
        if (weight <= 1) {
            return String.valueOf("xyzxyzabf".charAt(draw(9)));
        }
        switch (draw(6)) {
            case 0:
            case 1:
                return "(^" + "xyzf".charAt(draw(4)) + "." + drawText(weight - 1) + ")";
            case 2:
                return "(^" + "xyz".charAt(draw(3)) + "." + drawText(weight / 2) + ")" + "(" + drawText(weight / 2) + ")";
            case 3:
                return drawText(weight / 2) + drawText(weight - weight / 2);
            default:
                return drawText(weight / 2) + "(" + drawText(weight - weight / 2) + ")";
        }
    }

    private String drawTyped() {
        int kind = draw(12);
        if (kind < 6) {
            return TEXTS[draw(TEXTS.length)];
        }
        String text = drawText(2 + draw(draw(4) == 0 ? 30 : 14));
        if (kind == 6 && text.length() > 0) {
            int at = draw(text.length());
            text = text.substring(0, at) + "^.()xyz".charAt(draw(7)) + text.substring(at + draw(2));
        }
        return text;
    }

    /** A number of a term, mostly one that there is. */
    private int drawTerm(int terms) {
        return draw(40) == 0 ? new int[] {-1, terms, 40, Integer.MIN_VALUE, Integer.MAX_VALUE}[draw(5)]
                : terms == 0 ? 0 : draw(3) == 0 ? terms - 1 : draw(terms);
    }

    /** A number of a redex of a term, mostly one that there is. */
    private int drawRedex(Garth m, int term) {
        int redexes = term < 0 || term >= m.terms() ? 0 : m.redexes(term);
        return draw(12) == 0 || redexes == 0 ? drawIndex(redexes + 1) : draw(redexes);
    }

    private int drawIndex(int below) {
        return draw(30) == 0 ? new int[] {-1, 200, 400, Integer.MIN_VALUE, Integer.MAX_VALUE}[draw(5)] : draw(below);
    }

    private char drawLetter() {
        return draw(25) == 0 ? "A`{\0\uffff^".charAt(draw(6)) : "xyzabfg".charAt(draw(7));
    }

    private char drawStrategy() {
        return draw(30) == 0 ? "Nxb\0\uffff".charAt(draw(5)) : "nahwp".charAt(draw(5));
    }

    interface Call {
        Object answer();
    }

    private static String answerOf(Call call) {
        try {
            return String.valueOf(call.answer());
        } catch (RuntimeException e) {
            return "throws." + e.getClass().getSimpleName();
        }
    }

    private boolean due(List<String> run, String call, Call asked, Call wanted) {
        if (run.size() == MOST_CALLS) {
            return false;
        }
        String got = answerOf(asked);
        String want = answerOf(wanted);
        String name = call.substring(0, call.indexOf('('));
        tally.merge(name + (want.startsWith("throws") ? " " + want : ""), 1, Integer::sum);
        run.add(call + " = " + want);
        if (!got.equals(want)) {
            wrong++;
            System.out.println("seed run: " + String.join("; ", run));
            System.out.println(call + " answered " + got + ", due is " + want);
            return false;
        }
        return true;
    }

    private boolean typeText(List<String> run, Boehmgarth x, Garth m, String text) {
        boolean isRight = true;
        for (char sign : text.toCharArray()) {
            isRight = isRight && due(run, "type(" + sign + ")", () -> x.type(sign), () -> m.type(sign));
        }
        return isRight;
    }

    private boolean addTerm(List<String> run, Boehmgarth x, Garth m) {
        int n = m.terms();
        int a = drawTerm(n);
        int b = drawTerm(n);
        char letter = drawLetter();
        switch (draw(9)) {
            case 0:
                int number = draw(9) == 0 ? draw(24) - 2 : draw(6);
                return due(run, "number(" + number + ")", () -> x.number(number), () -> m.number(number));
            case 1:
            case 2:
                return due(run, "apply(" + a + "," + b + ")", () -> x.apply(a, b), () -> m.apply(a, b));
            case 3:
                return due(run, "abstraction(" + a + "," + letter + ")", () -> x.abstraction(a, letter),
                        () -> m.abstraction(a, letter));
            case 4:
                return due(run, "put(" + a + "," + letter + "," + b + ")", () -> x.put(a, letter, b),
                        () -> m.put(a, letter, b));
            case 5:
                return due(run, "copy(" + a + "," + b + ")", () -> x.copy(a, b), () -> m.copy(a, b));
            default:
                if (draw(12) != 0 && !due(run, "clear()", x::clear, m::clear)) {
                    return false;
                }
                return typeText(run, x, m, drawTyped()) && due(run, "fault()", x::fault, m::fault)
                        && due(run, "term()", x::term, m::term);
        }
    }

    private boolean change(List<String> run, Boehmgarth x, Garth m) {
        int a = drawTerm(m.terms());
        char strategy = drawStrategy();
        int redex = drawRedex(m, a);
        switch (draw(5)) {
            case 0:
                return due(run, "contract(" + a + "," + redex + ")", () -> x.contract(a, redex),
                        () -> m.contract(a, redex));
            case 1:
                return due(run, "eta(" + a + ")", () -> x.eta(a), () -> m.eta(a));
            case 2:
                int most = draw(20) == 0 ? new int[] {0, 61, -1, 60, 1}[draw(5)] : 1 + draw(60);
                return due(run, "reduce(" + a + "," + strategy + "," + most + ")", () -> x.reduce(a, strategy, most),
                        () -> m.reduce(a, strategy, most));
            default:
                return due(run, "step(" + a + "," + strategy + ")", () -> x.step(a, strategy),
                        () -> m.step(a, strategy));
        }
    }

    private boolean ask(List<String> run, Boehmgarth x, Garth m) {
        int a = drawTerm(m.terms());
        int b = drawTerm(m.terms());
        int i = drawIndex(draw(3) == 0 ? 70 : 12);
        int one = drawRedex(m, a);
        int other = drawRedex(m, a);
        int depth = draw(25) == 0 ? drawIndex(7) : draw(5);
        char letter = drawLetter();
        char strategy = drawStrategy();
        boolean isByNeed = draw(2) == 0;
        switch (draw(32)) {
            case 0: return due(run, "size(" + a + ")", () -> x.size(a), () -> m.size(a));
            case 1: return due(run, "places(" + a + "," + letter + ")", () -> x.places(a, letter), () -> m.places(a, letter));
            case 2: return due(run, "isClosed(" + a + ")", () -> x.isClosed(a), () -> m.isClosed(a));
            case 3: return due(run, "areSame(" + a + "," + b + ")", () -> x.areSame(a, b), () -> m.areSame(a, b));
            case 4: return due(run, "signAt(" + a + "," + i + ")", () -> x.signAt(a, i), () -> m.signAt(a, i));
            case 5: return due(run, "numberOf(" + a + ")", () -> x.numberOf(a), () -> m.numberOf(a));
            case 6: return due(run, "redexes(" + a + ")", () -> x.redexes(a), () -> m.redexes(a));
            case 7: return due(run, "redexAt(" + a + "," + one + ")", () -> x.redexAt(a, one), () -> m.redexAt(a, one));
            case 8:
            case 9: return due(run, "residuals(" + a + "," + one + "," + other + ")", () -> x.residuals(a, one, other),
                    () -> m.residuals(a, one, other));
            case 10:
            case 11: return due(run, "joins(" + a + "," + one + "," + other + ")", () -> x.joins(a, one, other),
                    () -> m.joins(a, one, other));
            case 12: return due(run, "isNormal(" + a + "," + strategy + ")", () -> x.isNormal(a, strategy),
                    () -> m.isNormal(a, strategy));
            case 13: return due(run, "best(" + a + ")", () -> x.best(a), () -> m.best(a));
            case 14: return due(run, "isSolved(" + a + ")", () -> x.isSolved(a), () -> m.isSolved(a));
            case 15: return due(run, "treeSigns(" + a + "," + depth + ")", () -> x.treeSigns(a, depth),
                    () -> m.treeSigns(a, depth));
            case 16: return due(run, "treeAt(" + a + "," + depth + "," + i + ")", () -> x.treeAt(a, depth, i),
                    () -> m.treeAt(a, depth, i));
            case 17: return due(run, "unlikeAt(" + a + "," + b + "," + depth + ")", () -> x.unlikeAt(a, b, depth),
                    () -> m.unlikeAt(a, b, depth));
            case 18: return due(run, "separated(" + a + "," + b + ")", () -> x.separated(a, b), () -> m.separated(a, b));
            case 19: return due(run, "hasType(" + a + ")", () -> x.hasType(a), () -> m.hasType(a));
            case 20: return due(run, "typeAt(" + a + "," + i + ")", () -> x.typeAt(a, i), () -> m.typeAt(a, i));
            case 21: return due(run, "arguments(" + a + ")", () -> x.arguments(a), () -> m.arguments(a));
            case 22: return due(run, "combinators(" + a + ")", () -> x.combinators(a), () -> m.combinators(a));
            case 23: return due(run, "combinatorAt(" + a + "," + i + ")", () -> x.combinatorAt(a, i),
                    () -> m.combinatorAt(a, i));
            case 24:
            case 25: return due(run, "betas(" + a + "," + isByNeed + ")", () -> x.betas(a, isByNeed),
                    () -> m.betas(a, isByNeed));
            case 26: return due(run, "headArguments(" + a + ")", () -> x.headArguments(a), () -> m.headArguments(a));
            case 27: return due(run, "checksum()", x::checksum, m::checksum);
            case 28: return due(run, "terms()", x::terms, m::terms);
            case 29: return due(run, "normalShare()", x::normalShare, m::normalShare);
            case 30: return due(run, "meanSize()", x::meanSize, m::meanSize);
            default: return due(run, "isSound()", x::isSound, m::isSound);
        }
    }

    /** All that is told of one term, sign by sign. */
    private boolean askAll(List<String> run, Boehmgarth x, Garth m, int a) {
        boolean isRight = true;
        for (int i = 0; i < 60 && isRight; i++) {
            int at = i;
            isRight = due(run, "typeAt(" + a + "," + at + ")", () -> x.typeAt(a, at), () -> m.typeAt(a, at))
                    && due(run, "combinatorAt(" + a + "," + at + ")", () -> x.combinatorAt(a, at),
                            () -> m.combinatorAt(a, at))
                    && due(run, "treeAt(" + a + ",4," + at + ")", () -> x.treeAt(a, 4, at), () -> m.treeAt(a, 4, at));
        }
        return isRight;
    }

    private boolean addText(List<String> run, Boehmgarth x, Garth m, String text) {
        return typeText(run, x, m, text) && due(run, "term()", x::term, m::term);
    }

    private boolean addMany(List<String> run, Boehmgarth x, Garth m) {
        boolean isRight = addText(run, x, m, drawTyped().length() % 2 == 0 ? "^x.xx" : "(^x.xy)a");
        int most = 36 + draw(5);
        for (int i = 1; i < most && isRight; i++) {
            int number = draw(4);
            isRight = due(run, "number(" + number + ")", () -> x.number(number), () -> m.number(number));
        }
        return isRight;
    }

    /** Terms whose sizes are near the greatest one, with redexes and without. */
    private boolean addGreat(List<String> run, Boehmgarth x, Garth m) {
        String inside = "xxxxxxxxxxxxxxxxxxxxxxxxxxxxxxxxxxxxxxxxxxxxx".substring(0, 1 + draw(45));
        String[] around = {"(^x." + inside + ")((^y.yz)b)", "^y.(^x.y)" + inside, inside + "(^x.x)", "(^z." + inside + "z)y"};
        boolean isRight = addText(run, x, m, around[draw(4)]) && addText(run, x, m, "x" + inside.substring(inside.length() / 2));
        for (int i = 0; i < 8 && isRight; i++) {
            int a = m.size(m.terms() - 1) < 101 && draw(3) != 0 ? m.terms() - 1 : draw(m.terms());
            int b = draw(m.terms());
            isRight = draw(2) == 0 ? due(run, "apply(" + a + "," + b + ")", () -> x.apply(a, b), () -> m.apply(a, b))
                    : due(run, "put(" + a + ",x," + b + ")", () -> x.put(a, 'x', b), () -> m.put(a, 'x', b));
        }
        return isRight;
    }

    /** Terms with nearly as many abstractions inside one another as may be. */
    private boolean addNested(List<String> run, Boehmgarth x, Garth m) {
        String[] insides = {"x", "ax", "xa(bx)", "(^y.yx)a", "(^y.^z.x)x", "x((^y.y)b)"};
        StringBuilder text = new StringBuilder();
        int most = 6 + draw(8);
        for (int i = 0; i < most; i++) {
            text.append('^').append((char) ('a' + i)).append('.');
        }
        boolean isRight = addText(run, x, m, text + insides[draw(6)]) && addText(run, x, m, "(^x." + text + insides[draw(6)] + ")x")
                && addText(run, x, m, "(^y.y)x");
        for (int i = 0; i < 10 && isRight; i++) {
            int a = draw(m.terms());
            int b = draw(m.terms());
            char letter = "xab".charAt(draw(3));
            isRight = draw(3) == 0 ? due(run, "apply(" + a + "," + b + ")", () -> x.apply(a, b), () -> m.apply(a, b))
                    : draw(3) == 0 ? due(run, "abstraction(" + a + "," + letter + ")", () -> x.abstraction(a, letter),
                            () -> m.abstraction(a, letter))
                    : due(run, "put(" + a + "," + letter + "," + b + ")", () -> x.put(a, letter, b),
                            () -> m.put(a, letter, b));
        }
        return isRight;
    }

    private boolean fillBuffer(List<String> run, Boehmgarth x, Garth m) {
        StringBuilder text = new StringBuilder("((((((((((((");
        int most = 57 + draw(5);
        while (text.length() < most) {
            text.append(draw(9) == 0 ? "^x." : draw(6) == 0 ? ")" : "x");
        }
        return typeText(run, x, m, text.toString()) && due(run, "fault()", x::fault, m::fault)
                && due(run, "term()", x::term, m::term);
    }

    private boolean begin(List<String> run, Boehmgarth x, Garth m) {
        switch (draw(8)) {
            case 0: return addMany(run, x, m);
            case 1:
            case 2: return addGreat(run, x, m);
            case 3:
            case 4: return addNested(run, x, m);
            case 5: return fillBuffer(run, x, m);
            default: return true;
        }
    }

    private boolean run(long start) {
        seed[0] = start;
        Boehmgarth x = new Boehmgarth();
        Garth m = new Garth();
        List<String> run = new ArrayList<>();
        boolean isRight = begin(run, x, m);
        for (int i = 0; i < 150 && isRight; i++) {
            int kind = draw(10);
            isRight = kind < 2 || m.terms() < 3 ? addTerm(run, x, m) : kind < 4 ? change(run, x, m) : ask(run, x, m);
            if (isRight && kind < 4) {
                isRight = due(run, "checksum()", x::checksum, m::checksum);
            }
        }
        return isRight && (draw(4) != 0 || m.terms() == 0 || askAll(run, x, m, draw(m.terms())));
    }

    public static void main(String[] args) {
        ModelRuns runs = new ModelRuns();
        int most = args.length > 0 ? Integer.parseInt(args[0]) : 400;
        int from = args.length > 1 ? Integer.parseInt(args[1]) : 0;
        for (int i = from; i < from + most && runs.wrong < 3; i++) {
            runs.run(i * 7919L + 17);
        }
        if (args.length > 0) {
            System.out.println(runs.tally);
        }
        System.out.println(runs.wrong == 0 ? "all runs are as the model's" : runs.wrong + " runs are not as the model's");
        if (runs.wrong != 0) {
            System.exit(1);
        }
    }
}
