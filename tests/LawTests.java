import java.util.ArrayList;
import java.util.List;
import java.util.Map;
import java.util.TreeMap;

/**
 * What the document says of all terms, before its promises, as laws between its calls, looked at on terms that are
 * drawn by a fixed rule. Nothing here knows how an answer is found: each law asks the class alone.
 */
public final class LawTests {
    private static final int DRAWN = 400;
    private static final char[] STRATEGIES = {'n', 'a', 'h', 'w', 'p'};
    private static final char[] ENDING = {'n', 'a', 'p'};

    private static final String[] TOLD = {
        "(^x.xx)((^y.y)a)", "(^x.^y.xy)y", "(^x.^f.f(xxf))(^x.^f.f(xxf))", "(^x.y)((^x.xx)(^x.xx))", "(^x.xx)(^x.xx)",
        "^x.^y.^z.xz(yz)", "(^x.(^y.yx)(xx))((^z.z)a)", "(^f.^x.f(fx))(^f.^x.f(fx))", "x^y.y", "^x.f(^y.xy)",
        "(^x.x(x(xy)))((^u.u)(^v.v))", "^y.(^x.^y.xy)y", "(^x.xxx)(^x.xxx)", "(^p.p(^x.^y.x))(^s.sab)",
        "(^x.^y.x)a((^x.xx)(^x.xx))", "^a.(^x.^y.xya)(^z.az)y", "(^x.xa)(^y.(^x.xx)y)", "^x.^y.xyz(^u.x(yu))",
    };

    private long seed;
    private String text = "";
    private int asked;
    private int wrong;
    private final Map<String, Integer> tally = new TreeMap<>();

    // ---- drawing

    private int draw(int below) {
        seed = seed * 6364136223846793005L + 1442695040888963407L;
        return (int) ((seed >>> 33) % below);
    }

    private String drawText(int weight) {
        if (weight <= 1) {
            return draw(12) == 0 ? "(^y.yy)" : String.valueOf("xyzxyab".charAt(draw(7)));
        }
        switch (draw(5)) {
            case 0:
                return "(^" + "xyz".charAt(draw(3)) + "." + drawText(weight - 1) + ")";
            case 1:
                return "(^" + "xyz".charAt(draw(3)) + "." + drawText(weight / 2) + ")(" + drawText(weight / 2) + ")";
            case 2:
                return drawText(weight / 2) + drawText(weight - weight / 2);
            default:
                return drawText(weight / 2) + "(" + drawText(weight - weight / 2) + ")";
        }
    }

    private String drawShort(int weight) {
        String drawn = drawText(weight);
        return drawn.length() <= 60 ? drawn : drawShort(weight / 2);
    }

    // ---- asking

    private interface Call {
        int make();
    }

    /** What a call answers, or null if it refuses. */
    private static Integer tried(Call call) {
        try {
            return call.make();
        } catch (RuntimeException e) {
            return null;
        }
    }

    private void due(String law, boolean isKept) {
        asked++;
        tally.merge(law, 1, Integer::sum);
        if (!isKept) {
            wrong++;
            System.out.println(law + ": not so for " + text);
        }
    }

    private static int add(Boehmgarth g, String text) {
        for (char sign : text.toCharArray()) {
            g.type(sign);
        }
        return g.term();
    }

    private Boehmgarth garth() {
        Boehmgarth g = new Boehmgarth();
        add(g, text);
        return g;
    }

    private static int again(Boehmgarth g, int term) {
        int made = g.number(0);
        g.copy(term, made);
        return made;
    }

    private static String signs(Boehmgarth g, int term) {
        StringBuilder signs = new StringBuilder();
        int size = g.size(term);
        for (int i = 0; i < size; i++) {
            signs.append(g.signAt(term, i));
        }
        return signs.toString();
    }

    // ---- "Terms that are alike but for the letters that are bound are the same."

    /** The text with the letters that are bound named anew, k, l, m and so on, from the left. */
    private static String renamed(String text) {
        StringBuilder made = new StringBuilder();
        List<char[]> scope = new ArrayList<>();
        char next = 'k';
        for (int i = 0; i < text.length(); i++) {
            char sign = text.charAt(i);
            if (sign == '^') {
                scope.add(new char[] {text.charAt(i + 1), next});
                made.append('^').append(next).append('.');
                next++;
                i += 2;
            } else if (sign == '(') {
                scope.add(new char[] {'(', '('});
                made.append(sign);
            } else if (sign == ')') {
                while (scope.remove(scope.size() - 1)[0] != '(') {
                    continue;
                }
                made.append(sign);
            } else {
                char meant = sign;
                for (char[] each : scope) {
                    meant = each[0] == sign ? each[1] : meant;
                }
                made.append(meant);
            }
        }
        return made.toString();
    }

    private void lettersThatAreBoundMayBeAny() {
        if (text.chars().filter(c -> c == '^').count() > 16) {
            return;
        }
        Boehmgarth g = garth();
        int other = add(g, renamed(text));
        due("alike but for bound letters", g.areSame(0, other));
        Integer one = tried(() -> g.put(0, 'x', other));
        Integer two = tried(() -> g.put(other, 'x', 0));
        due("a term put into either", one == null ? two == null : two != null && g.areSame(one, two));
        for (char strategy : STRATEGIES) {
            dueAlikeBy(strategy, g, other);
        }
    }

    private void dueAlikeBy(char strategy, Boehmgarth g, int other) {
        int one = again(g, 0);
        int two = again(g, other);
        Integer steps = tried(() -> g.reduce(one, strategy, 9));
        Integer too = tried(() -> g.reduce(two, strategy, 9));
        due("alike by strategies", steps == null ? too == null : steps.equals(too) && g.areSame(one, two));
    }

    // ---- "all strategies that end agree"

    private void allStrategiesThatEndAgree() {
        Boehmgarth g = garth();
        Integer first = null;
        for (char strategy : ENDING) {
            for (char before : new char[] {'n', 'h', 'w'}) {
                int made = again(g, 0);
                if (tried(() -> g.reduce(made, before, 30)) != null && tried(() -> g.reduce(made, strategy, 60)) != null) {
                    first = first == null ? made : first;
                    due("strategies that end agree", g.areSame(first, made) && g.redexes(made) == 0);
                }
            }
        }
    }

    private void bestIsTheOneWithTheFewestSteps() {
        Boehmgarth g = garth();
        char best = 0;
        int fewest = 61;
        for (char strategy : ENDING) {
            int made = again(g, 0);
            Integer steps = tried(() -> g.reduce(made, strategy, 60));
            if (steps != null && steps < fewest) {
                fewest = steps;
                best = strategy;
            }
        }
        Integer told = tried(() -> g.best(0));
        due("best has the fewest steps", told == null ? best == 0 : told == best);
    }

    // ---- "redexes and residuals that join"

    private void redexesJoin() {
        Boehmgarth g = garth();
        int most = Math.min(g.redexes(0), 8);
        for (int one = 0; one < most; one++) {
            for (int other = 0; other < most; other++) {
                int first = one;
                int second = other;
                Integer joined = tried(() -> g.joins(0, first, second) ? 1 : 0);
                if (joined != null) {
                    due("redexes join", joined == 1);
                }
                Integer residuals = tried(() -> g.residuals(0, first, second));
                due("none is left of the same", one != other || residuals == null || residuals == 0);
            }
        }
    }

    private void redexesAreNumberedAsTheyStand() {
        Boehmgarth g = garth();
        String signs = signs(g, 0);
        int redex = 0;
        for (int at = signs.indexOf("@^"); at >= 0; at = signs.indexOf("@^", at + 1)) {
            due("redexes by their signs", g.redexAt(0, redex) == at);
            redex++;
        }
        due("as many as stand there", g.redexes(0) == redex);
    }

    // ---- steps

    private static int redexThatStandsAt(Boehmgarth g, int term, int place) {
        int redex = 0;
        while (g.redexAt(term, redex) < place) {
            redex++;
        }
        return redex;
    }

    /** What stands before a redex in the signs stays as it is contracted, so that all are found by their places. */
    private void byPAllAreContractedThoseInsideFirst() {
        Boehmgarth g = garth();
        int atOnce = again(g, 0);
        int oneByOne = again(g, 0);
        int redexes = g.redexes(0);
        if (redexes > 8 || tried(() -> g.step(atOnce, 'p') ? 1 : 0) == null) {
            return;
        }
        for (int i = redexes - 1; i >= 0; i--) {
            int at = redexThatStandsAt(g, oneByOne, g.redexAt(0, i));
            if (tried(() -> g.contract(oneByOne, at)) == null) {
                return;
            }
        }
        due("by p all at once", g.areSame(atOnce, oneByOne));
    }

    private void aStepContractsOneRedex() {
        for (char strategy : new char[] {'n', 'a', 'h', 'w'}) {
            Boehmgarth g = garth();
            int stepped = again(g, 0);
            boolean isNormal = g.isNormal(0, strategy);
            Integer step = tried(() -> g.step(stepped, strategy) ? 1 : 0);
            if (step == null) {
                continue;
            }
            due("normal is without a step", isNormal == (step == 0) && (step == 1 || g.areSame(0, stepped)));
            boolean isOne = step == 0;
            for (int redex = 0; redex < g.redexes(0) && redex < 20; redex++) {
                int made = again(g, 0);
                int at = redex;
                isOne = isOne || tried(() -> g.contract(made, at)) != null && g.areSame(made, stepped);
            }
            due("a step is a contraction", isOne);
        }
    }

    private void byNTheFirstIsContracted() {
        Boehmgarth g = garth();
        int one = again(g, 0);
        int other = again(g, 0);
        if (tried(() -> g.contract(one, 0)) != null) {
            g.step(other, 'n');
            due("by n the first redex", g.areSame(one, other));
        }
    }

    /** "Contracting it puts the argument in place of the letter in what is behind the point." */
    private void contractingPutsTheArgumentInPlaceOfTheLetter() {
        Boehmgarth g = garth();
        int part = add(g, "y(^z.zx)");
        Integer put = tried(() -> g.put(0, 'x', part));
        Integer applied = tried(() -> g.apply(g.abstraction(0, 'x'), part));
        if (put != null && applied != null) {
            g.contract(applied, 0);
            due("contracting puts", g.areSame(put, applied));
        }
    }

    private void aReductionGoesStepByStep() {
        for (char strategy : STRATEGIES) {
            Boehmgarth g = garth();
            int reduced = again(g, 0);
            int stepped = again(g, 0);
            Integer steps = tried(() -> g.reduce(reduced, strategy, 60));
            if (steps != null) {
                for (int i = 0; i < steps; i++) {
                    due("a step that there is", g.step(stepped, strategy));
                }
                due("a reduction is its steps", !g.step(stepped, strategy) && g.areSame(reduced, stepped));
            } else {
                due("a reduction that is refused changes nothing", g.areSame(0, reduced));
            }
        }
    }

    // ---- eta

    private void etaGoesEverywhereAtOnce() {
        Boehmgarth g = garth();
        int made = again(g, 0);
        int gone = g.eta(made);
        due("each eta makes it three signs less", g.size(made) == g.size(0) - 3 * gone);
        due("none is left by eta", g.eta(made) == 0);
        for (char letter : "xyzab".toCharArray()) {
            due("free letters stay by eta", g.places(made, letter) == g.places(0, letter));
        }
    }

    // ---- trees

    private static String tree(Boehmgarth g, int term, int depth) {
        Integer signs = tried(() -> g.treeSigns(term, depth));
        if (signs == null) {
            return "too great";
        }
        StringBuilder tree = new StringBuilder();
        for (int i = 0; i < signs && i < 60; i++) {
            tree.append(g.treeAt(term, depth, i));
        }
        return tree.append(' ').append(signs).toString();
    }

    private void aTreeIsThatOfTheHeadNormalForm() {
        Boehmgarth g = garth();
        int form = again(g, 0);
        boolean isLed = tried(() -> g.reduce(form, 'h', 20)) != null;
        due("solved is what leads to a form", g.isSolved(0) == isLed);
        due("to the depth 0 it is one sign", tree(g, 0, 0).equals("? 1"));
        if (!isLed) {
            due("without a form it is one sign", tree(g, 0, 4).equals("? 1"));
            return;
        }
        due("the tree of the form", tree(g, 0, 2).equals(tree(g, form, 2)));
        due("the tree of the form", tree(g, 0, 4).equals(tree(g, form, 4)));
    }

    private void treesThatAreUnlikeStaySo() {
        Boehmgarth g = garth();
        int other = add(g, "^x.x(^y.ya)b");
        Integer least = tried(() -> g.separated(0, other));
        for (int depth = 0; depth <= 4; depth++) {
            int to = depth;
            Integer at = tried(() -> g.unlikeAt(0, other, to));
            if (least != null && depth < least) {
                due("alike before they are separated", at == null);
            } else if (at != null) {
                due("separated where they are unlike", least != null && g.treeAt(0, to, at) != g.treeAt(other, to, at));
            }
        }
    }

    // ---- types

    private void typesStayInSteps() {
        if (!garth().hasType(0)) {
            return;
        }
        for (char strategy : STRATEGIES) {
            Boehmgarth g = garth();
            if (tried(() -> g.reduce(0, strategy, 60)) != null) {
                due("what has a type keeps one", g.hasType(0));
            }
        }
        due("what has a type is solved or long", garth().isSolved(0) || tried(() -> garth().reduce(0, 'h', 20)) == null);
    }

    /** "Each application has a left part of a type x to y and a right part of x." */
    private void anAbstractionTakesOneArgumentMore() {
        Boehmgarth g = garth();
        Integer arguments = tried(() -> g.arguments(0));
        Integer made = tried(() -> g.abstraction(0, 'q'));
        if (arguments != null && made != null) {
            Integer more = tried(() -> g.arguments(made));
            due("one argument more", more == null || more == arguments + 1);
            if (arguments > 0) {
                Integer applied = tried(() -> g.apply(0, add(g, "q")));
                due("one argument less", applied == null || g.arguments(applied) == arguments - 1);
            }
        }
    }

    // ---- combinators

    /** The signs of combinators as a text, with s, k and i in place of S, K and I. */
    private static String read(String signs, int[] at) {
        char sign = signs.charAt(at[0]);
        at[0]++;
        if (sign != '@') {
            return String.valueOf(Character.toLowerCase(sign));
        }
        String left = read(signs, at);
        String right = read(signs, at);
        return left + (right.length() > 1 ? "(" + right + ")" : right);
    }

    private void combinatorsMeanTheSame() {
        Boehmgarth g = garth();
        int normal = again(g, 0);
        Integer most = tried(() -> g.combinators(0));
        if (most == null || most > 60 || tried(() -> g.reduce(normal, 'n', 40)) == null) {
            return;
        }
        StringBuilder signs = new StringBuilder();
        for (int i = 0; i < most; i++) {
            signs.append(g.combinatorAt(0, i));
        }
        due("no letter is bound in them", signs.indexOf("^") < 0 && signs.indexOf("A") < 0);
        String told = read(signs.toString(), new int[1]);
        if (told.length() > 60) {
            return;
        }
        int made = add(g, told);
        String[] meanings = {"s", "^x.^y.^z.xz(yz)", "k", "^x.^y.x", "i", "^x.x"};
        for (int i = 0; i < meanings.length; i += 2) {
            char letter = meanings[i].charAt(0);
            int last = made;
            int meaning = add(g, meanings[i + 1]);
            Integer put = tried(() -> g.put(last, letter, meaning));
            if (put == null) {
                return;
            }
            made = put;
        }
        int all = made;
        if (tried(() -> g.reduce(all, 'n', 60)) != null) {
            g.eta(all);
            g.eta(normal);
            due("combinators mean the same", g.areSame(all, normal));
        }
    }

    // ---- machines

    private void machinesGoByW() {
        Boehmgarth g = garth();
        int form = again(g, 0);
        Integer byName = tried(() -> g.betas(0, false));
        Integer byNeed = tried(() -> g.betas(0, true));
        due("by need is not more", byName == null || byNeed != null && byNeed <= byName);
        Integer steps = tried(() -> g.reduce(form, 'w', 60));
        if (steps == null) {
            return;
        }
        due("by name as many as by w", steps.equals(byName));
        String signs = signs(g, form);
        int head = 0;
        while (signs.charAt(head) == '@') {
            head++;
        }
        due("arguments of the head", g.headArguments(0) == (signs.charAt(head) == '^' ? -1 : head));
    }

    // ---- figures

    private void figuresAreOfAllTerms() {
        Boehmgarth g = garth();
        add(g, "(^x.x)y");
        tried(() -> g.step(0, 'n') ? 1 : 0);
        long sum = 0;
        int sizes = 0;
        int normal = 0;
        for (int term = 0; term < g.terms(); term++) {
            for (char sign : signs(g, term).toCharArray()) {
                sum = 31 * sum + sign;
            }
            sum *= 31;
            sizes += g.size(term);
            normal += g.isNormal(term, 'n') ? 1 : 0;
        }
        due("checksum", g.checksum() == sum);
        due("meanSize", g.meanSize() == (double) sizes / (double) g.terms());
        due("normalShare", g.normalShare() == (float) normal / (float) g.terms());
        due("isSound", g.isSound());
    }

    // ---- "The number n is ^f.^x. and f n times on x."

    private static final String[] COUNTING = {"^m.^n.^f.^x.mf(nfx)", "^m.^n.^f.m(nf)", "^m.^n.nm"};

    private void numbersCount() {
        for (int m = 0; m <= 4; m++) {
            for (int n = 0; n <= 4; n++) {
                dueCounted(0, m, n, m + n);
                dueCounted(1, m, n, m * n);
                dueCounted(2, m, n, (int) Math.pow(m, n));
            }
        }
    }

    private void dueCounted(int counting, int m, int n, int counted) {
        text = COUNTING[counting] + " of " + m + " and " + n;
        Boehmgarth g = new Boehmgarth();
        int made = g.apply(g.apply(add(g, COUNTING[counting]), g.number(m)), g.number(n));
        if (tried(() -> g.reduce(made, 'n', 60)) == null) {
            return;
        }
        if (counting == 2 && n == 0) {
            // None times a number is ^f.f, the number 1 but for eta.
            due("numbers", g.areSame(made, add(g, "^f.f")) && tried(() -> g.numberOf(made)) == null);
        } else {
            Integer number = tried(() -> g.numberOf(made));
            due("numbers", number != null && number == counted);
        }
    }

    private void look(String at) {
        text = at;
        lettersThatAreBoundMayBeAny();
        allStrategiesThatEndAgree();
        bestIsTheOneWithTheFewestSteps();
        redexesJoin();
        redexesAreNumberedAsTheyStand();
        byPAllAreContractedThoseInsideFirst();
        aStepContractsOneRedex();
        byNTheFirstIsContracted();
        contractingPutsTheArgumentInPlaceOfTheLetter();
        aReductionGoesStepByStep();
        etaGoesEverywhereAtOnce();
        aTreeIsThatOfTheHeadNormalForm();
        treesThatAreUnlikeStaySo();
        typesStayInSteps();
        anAbstractionTakesOneArgumentMore();
        combinatorsMeanTheSame();
        machinesGoByW();
        figuresAreOfAllTerms();
    }

    public static void main(String[] args) {
        LawTests laws = new LawTests();
        int drawn = args.length > 0 ? Integer.parseInt(args[0]) : DRAWN;
        laws.seed = args.length > 1 ? Long.parseLong(args[1]) : 31;
        for (String told : TOLD) {
            laws.look(told);
        }
        for (int i = 0; i < drawn; i++) {
            laws.look(laws.drawShort(2 + i % 17));
        }
        laws.numbersCount();
        if (args.length > 0) {
            System.out.println(laws.tally);
        }
        System.out.println(laws.wrong == 0 ? "the laws hold " + laws.asked + " times" : laws.wrong + " times a law is broken");
        if (laws.wrong != 0) {
            System.exit(1);
        }
    }
}
