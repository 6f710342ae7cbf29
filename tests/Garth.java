import java.util.ArrayList;
import java.util.HashMap;
import java.util.HashSet;
import java.util.IdentityHashMap;
import java.util.List;
import java.util.Map;
import java.util.NoSuchElementException;
import java.util.Set;

/**
 * The document once more, as plainly as can be and by other means than the class under test: terms are trees in which
 * a bound letter points at its abstraction, all that is asked is recursion. ModelRuns compares the two.
 */
final class Garth {
    /** A node of a term: 'f' a free letter, 'b' a bound one, '^', '@', or '?' in trees. */
    static final class T {
        char kind;
        char letter;
        T left;
        T right;
        T binder;
        int label;

        T(char kind) {
            this.kind = kind;
        }

        int size() {
            return 1 + (left == null ? 0 : left.size()) + (right == null ? 0 : right.size());
        }

        int nest() {
            int below = Math.max(left == null ? 0 : left.nest(), right == null ? 0 : right.nest());
            return kind == '^' ? below + 1 : below;
        }

        boolean holds(T binderSought) {
            return kind == 'b' && binder == binderSought || left != null && left.holds(binderSought)
                    || right != null && right.holds(binderSought);
        }

        boolean isRedex() {
            return kind == '@' && left.kind == '^';
        }
    }

    static final class TooGreat extends RuntimeException {
        private static final long serialVersionUID = 1L;
    }

    private final StringBuilder buffer = new StringBuilder();
    private final List<T> terms = new ArrayList<>();

    // ---- nodes

    static T free(char letter) {
        T t = new T('f');
        t.letter = letter;
        return t;
    }

    static T bound(T binder) {
        T t = new T('b');
        t.binder = binder;
        return t;
    }

    static T app(T left, T right) {
        T t = new T('@');
        t.left = left;
        t.right = right;
        return t;
    }

    static T fresh(T t, Map<T, T> binders) {
        T made = new T(t.kind);
        made.letter = t.letter;
        made.label = t.label;
        if (t.kind == '^') {
            binders.put(t, made);
        }
        if (t.kind == 'b') {
            made.binder = binders.getOrDefault(t.binder, t.binder);
        }
        made.left = t.left == null ? null : fresh(t.left, binders);
        made.right = t.right == null ? null : fresh(t.right, binders);
        return made;
    }

    static T fresh(T t) {
        return fresh(t, new IdentityHashMap<>());
    }

    static T filled(T body, T binder, T argument) {
        if (body.kind == 'b' && body.binder == binder) {
            return fresh(argument);
        }
        if (body.left != null) {
            body.left = filled(body.left, binder, argument);
        }
        if (body.right != null) {
            body.right = filled(body.right, binder, argument);
        }
        return body;
    }

    static T filledLetter(T t, char letter, T part) {
        if (t.kind == 'f' && t.letter == letter) {
            return fresh(part);
        }
        if (t.left != null) {
            t.left = filledLetter(t.left, letter, part);
        }
        if (t.right != null) {
            t.right = filledLetter(t.right, letter, part);
        }
        return t;
    }

    static T contracted(T redex) {
        return filled(redex.left.left, redex.left, redex.right);
    }

    static String signs(T t, List<T> scope) {
        switch (t.kind) {
            case 'f':
                return String.valueOf(t.letter);
            case 'b':
                for (int i = 0; i < scope.size(); i++) {
                    if (scope.get(scope.size() - 1 - i) == t.binder) {
                        return String.valueOf((char) ('A' + i));
                    }
                }
                throw new IllegalStateException("a letter lost its abstraction");
            case '^':
                scope.add(t);
                String inside = signs(t.left, scope);
                scope.remove(scope.size() - 1);
                return "^" + inside;
            case '@':
                return "@" + signs(t.left, scope) + signs(t.right, scope);
            default:
                return "?";
        }
    }

    static String signs(T t) {
        return signs(t, new ArrayList<>());
    }

    static T checked(T t) {
        if (t.size() > 200 || t.nest() > 25) {
            throw new TooGreat();
        }
        return t;
    }

    // ---- words and terms

    int type(char sign) {
        if ("abcdefghijklmnopqrstuvwxyz^.()".indexOf(sign) < 0) {
            throw new IllegalArgumentException();
        }
        if (buffer.length() == 60) {
            throw new IllegalStateException();
        }
        buffer.append(sign);
        return buffer.length();
    }

    int clear() {
        int were = buffer.length();
        buffer.setLength(0);
        return were;
    }

    /** A text that ends a beginning as a term, or null if nothing does. */
    private static boolean isBeginning(String text) {
        // A beginning of a term can be ended by one of these, and then by brackets.
        for (String end : new String[] {"", "x", "x.x", ".x"}) {
            StringBuilder whole = new StringBuilder(text).append(end);
            for (int i = 0; i <= text.length(); i++) {
                if (parsed(whole.toString()) != null) {
                    return true;
                }
                whole.append(')');
            }
        }
        return false;
    }

    int fault() {
        String text = buffer.toString();
        if (parsed(text) != null) {
            return -1;
        }
        for (int i = 0; i < text.length(); i++) {
            if (!isBeginning(text.substring(0, i + 1))) {
                return i;
            }
        }
        return text.length();
    }

    private static final class Parse {
        String text;
        int at;
    }

    static T parsed(String text) {
        Parse parse = new Parse();
        parse.text = text;
        T made = parseTerm(parse, new ArrayList<>());
        return made != null && parse.at == text.length() ? made : null;
    }

    private static T parseTerm(Parse parse, List<T> scope) {
        T made = null;
        while (parse.at < parse.text.length() && parse.text.charAt(parse.at) != ')') {
            T part = parsePart(parse, scope);
            if (part == null) {
                return null;
            }
            made = made == null ? part : app(made, part);
        }
        return made;
    }

    private static T parsePart(Parse parse, List<T> scope) {
        String text = parse.text;
        char sign = text.charAt(parse.at);
        parse.at++;
        if (sign >= 'a' && sign <= 'z') {
            for (int i = scope.size() - 1; i >= 0; i--) {
                if (scope.get(i).letter == sign) {
                    return bound(scope.get(i));
                }
            }
            return free(sign);
        }
        if (sign == '(') {
            T inside = parseTerm(parse, scope);
            if (inside == null || parse.at >= text.length()) {
                return null;
            }
            parse.at++;
            return inside;
        }
        if (sign == '^' && parse.at + 1 < text.length() && Character.isLowerCase(text.charAt(parse.at))
                && text.charAt(parse.at + 1) == '.') {
            T made = new T('^');
            made.letter = text.charAt(parse.at);
            parse.at += 2;
            scope.add(made);
            made.left = parseTerm(parse, scope);
            scope.remove(scope.size() - 1);
            return made.left == null ? null : made;
        }
        return null;
    }

    int term() {
        T made = parsed(buffer.toString());
        if (made == null) {
            throw new UnsupportedOperationException();
        }
        int number = add(made);
        buffer.setLength(0);
        return number;
    }

    private int add(T made) {
        T fit = great(() -> checked(made));
        if (terms.size() == 40) {
            throw new IllegalStateException();
        }
        terms.add(fit);
        return terms.size() - 1;
    }

    interface Making<X> {
        X make();
    }

    static <X> X great(Making<X> making) {
        try {
            return making.make();
        } catch (TooGreat e) {
            throw new UnsupportedOperationException();
        }
    }

    int number(int number) {
        if (number < 0 || number > 20) {
            throw new IllegalArgumentException();
        }
        return add(numberTerm(number));
    }

    private static T numberTerm(int number) {
        T f = new T('^');
        T x = new T('^');
        f.left = x;
        T body = bound(x);
        for (int i = 0; i < number; i++) {
            body = app(bound(f), body);
        }
        x.left = body;
        return f;
    }

    private T get(int term) {
        if (term < 0 || term >= terms.size()) {
            throw new IndexOutOfBoundsException();
        }
        return terms.get(term);
    }

    private static void letter(char letter) {
        if (letter < 'a' || letter > 'z') {
            throw new IllegalArgumentException();
        }
    }

    int apply(int first, int second) {
        T one = get(first);
        T other = get(second);
        return add(app(fresh(one), fresh(other)));
    }

    int abstraction(int term, char letter) {
        T t = get(term);
        letter(letter);
        T made = new T('^');
        made.left = filledLetter(fresh(t), letter, bound(made));
        return add(made);
    }

    int put(int term, char letter, int other) {
        T t = get(term);
        T part = get(other);
        letter(letter);
        return add(filledLetter(fresh(t), letter, part));
    }

    int copy(int from, int to) {
        T t = get(from);
        get(to);
        terms.set(to, fresh(t));
        return t.size();
    }

    int size(int term) {
        return get(term).size();
    }

    int places(int term, char letter) {
        T t = get(term);
        letter(letter);
        return (int) signs(t).chars().filter(c -> c == letter).count();
    }

    boolean isClosed(int term) {
        return signs(get(term)).chars().noneMatch(c -> c >= 'a' && c <= 'z');
    }

    boolean areSame(int first, int second) {
        T one = get(first);
        return signs(one).equals(signs(get(second)));
    }

    private static char at(String signs, int index) {
        if (index < 0 || index >= signs.length()) {
            throw new NoSuchElementException();
        }
        return signs.charAt(index);
    }

    char signAt(int term, int index) {
        return at(signs(get(term)), index);
    }

    int numberOf(int term) {
        String signs = signs(get(term));
        for (int i = 0; i < 100; i++) {
            if (signs.equals(signs(numberTerm(i)))) {
                return i;
            }
        }
        throw new NoSuchElementException();
    }

    // ---- reductions

    private static void redexesOf(T t, List<T> found) {
        if (t.isRedex()) {
            found.add(t);
        }
        if (t.left != null) {
            redexesOf(t.left, found);
        }
        if (t.right != null) {
            redexesOf(t.right, found);
        }
    }

    private static List<T> redexesOf(T t) {
        List<T> found = new ArrayList<>();
        redexesOf(t, found);
        return found;
    }

    int redexes(int term) {
        return redexesOf(get(term)).size();
    }

    private static T redex(T t, int redex) {
        List<T> found = redexesOf(t);
        if (redex < 0 || redex >= found.size()) {
            throw new NoSuchElementException();
        }
        return found.get(redex);
    }

    private static int placeOf(T t, T sought, int at) {
        if (t == sought) {
            return at;
        }
        int place = t.left == null ? -1 : placeOf(t.left, sought, at + 1);
        return place >= 0 || t.right == null ? place : placeOf(t.right, sought, at + 1 + t.left.size());
    }

    int redexAt(int term, int redex) {
        T t = get(term);
        return placeOf(t, redex(t, redex), 0);
    }

    /** Contracts all redexes with a label, inside first, and looks at each part. */
    private static T developed(T t, int label) {
        if (t.left != null) {
            t.left = developed(t.left, label);
        }
        if (t.right != null) {
            t.right = developed(t.right, label);
        }
        return checked(t.label == label ? contracted(t) : t);
    }

    /** Contracts just one redex and looks at the whole. */
    private static T contractedIn(T t, T redex) {
        return checked(replaced(t, redex));
    }

    private static T replaced(T t, T redex) {
        if (t == redex) {
            return contracted(t);
        }
        if (t.left != null) {
            t.left = replaced(t.left, redex);
        }
        if (t.right != null) {
            t.right = replaced(t.right, redex);
        }
        return t;
    }

    int contract(int term, int redex) {
        T t = fresh(get(term));
        T at = redex(t, redex);
        T made = great(() -> contractedIn(t, at));
        terms.set(term, made);
        return made.size();
    }

    private static int labels(T t, int label) {
        return (t.label == label ? 1 : 0) + (t.left == null ? 0 : labels(t.left, label))
                + (t.right == null ? 0 : labels(t.right, label));
    }

    int residuals(int term, int redex, int other) {
        T t = fresh(get(term));
        T followed = redex(t, redex);
        T at = redex(t, other);
        followed.label = 7;
        T made = great(() -> contractedIn(t, at));
        return redex == other ? 0 : labels(made, 7);
    }

    private T joined(T t, int one, int other) {
        T source = fresh(t);
        T first = redex(source, one);
        if (one != other) {
            redex(source, other).label = 7;
        }
        T made = contractedIn(source, first);
        return developed(made, 7);
    }

    boolean joins(int term, int one, int other) {
        T t = get(term);
        redex(t, one);
        redex(t, other);
        return great(() -> signs(joined(t, one, other)).equals(signs(joined(t, other, one))));
    }

    private static T redexBy(T t, char strategy) {
        switch (strategy) {
            case 'n':
            case 'p':
                List<T> all = redexesOf(t);
                return all.isEmpty() ? null : all.get(0);
            case 'a':
                return innermost(t);
            default:
                T at = t;
                while (strategy == 'h' && at.kind == '^') {
                    at = at.left;
                }
                while (at.kind == '@' && at.left.kind == '@') {
                    at = at.left;
                }
                return at.isRedex() ? at : null;
        }
    }

    private static T innermost(T t) {
        T found = t.left == null ? null : innermost(t.left);
        if (found == null && t.right != null) {
            found = innermost(t.right);
        }
        return found == null && t.isRedex() ? t : found;
    }

    private static T stepped(T t, char strategy) {
        T made = fresh(t);
        if (strategy == 'p') {
            for (T redex : redexesOf(made)) {
                redex.label = 9;
            }
            made = developed(made, 9);
            return made;
        }
        return contractedIn(made, redexBy(made, strategy));
    }

    private static void strategy(char strategy) {
        if ("nahwp".indexOf(strategy) < 0) {
            throw new IllegalArgumentException();
        }
    }

    boolean step(int term, char strategy) {
        T t = get(term);
        strategy(strategy);
        if (redexBy(t, strategy) == null) {
            return false;
        }
        terms.set(term, great(() -> stepped(t, strategy)));
        return true;
    }

    boolean isNormal(int term, char strategy) {
        T t = get(term);
        strategy(strategy);
        return redexBy(t, strategy) == null;
    }

    /** All terms from this one to the normal one; null if there are more than so many steps, or one is too great. */
    private static List<T> way(T t, char strategy, int most) {
        List<T> way = new ArrayList<>();
        way.add(t);
        try {
            while (redexBy(way.get(way.size() - 1), strategy) != null) {
                if (way.size() > most) {
                    return null;
                }
                way.add(stepped(way.get(way.size() - 1), strategy));
            }
        } catch (TooGreat e) {
            return null;
        }
        return way;
    }

    int reduce(int term, char strategy, int most) {
        T t = get(term);
        strategy(strategy);
        if (most < 1 || most > 60) {
            throw new IllegalArgumentException();
        }
        List<T> way = way(t, strategy, most);
        if (way == null) {
            throw new UnsupportedOperationException();
        }
        terms.set(term, way.get(way.size() - 1));
        return way.size() - 1;
    }

    char best(int term) {
        T t = get(term);
        char best = 0;
        int fewest = 1000;
        for (char strategy : "nap".toCharArray()) {
            List<T> way = way(t, strategy, 60);
            if (way != null && way.size() < fewest) {
                fewest = way.size();
                best = strategy;
            }
        }
        if (best == 0) {
            throw new NoSuchElementException();
        }
        return best;
    }

    private int gone;

    private T etaOf(T t) {
        if (t.left != null) {
            t.left = etaOf(t.left);
        }
        if (t.right != null) {
            t.right = etaOf(t.right);
        }
        if (t.kind == '^' && t.left.kind == '@' && t.left.right.kind == 'b' && t.left.right.binder == t
                && !t.left.left.holds(t)) {
            gone++;
            return t.left.left;
        }
        return t;
    }

    int eta(int term) {
        T t = get(term);
        gone = 0;
        terms.set(term, etaOf(fresh(t)));
        return gone;
    }

    // ---- trees

    private int treeNodes;

    private T treeOf(T t, int depth) {
        treeNodes++;
        if (treeNodes > 100000) {
            throw new TooGreat();
        }
        List<T> way = depth == 0 ? null : way(t, 'h', 20);
        if (way == null) {
            return new T('?');
        }
        T form = fresh(way.get(way.size() - 1));
        T body = form;
        while (body.kind == '^') {
            body = body.left;
        }
        for (; body.kind == '@'; body = body.left) {
            body.right = treeOf(body.right, depth - 1);
        }
        return form;
    }

    private String tree(T t, int depth) {
        treeNodes = 0;
        return great(() -> signs(checked(treeOf(t, depth))));
    }

    private static void depth(int depth) {
        if (depth < 0 || depth > 4) {
            throw new IllegalArgumentException();
        }
    }

    boolean isSolved(int term) {
        return way(get(term), 'h', 20) != null;
    }

    int treeSigns(int term, int depth) {
        T t = get(term);
        depth(depth);
        return tree(t, depth).length();
    }

    char treeAt(int term, int depth, int index) {
        T t = get(term);
        depth(depth);
        return at(tree(t, depth), index);
    }

    private int unlike(T one, T other, int depth) {
        String here = tree(one, depth);
        String there = tree(other, depth);
        if (here.equals(there)) {
            return -1;
        }
        int i = 0;
        while (here.charAt(i) == there.charAt(i)) {
            i++;
        }
        return i;
    }

    int unlikeAt(int first, int second, int depth) {
        T one = get(first);
        T other = get(second);
        depth(depth);
        int unlike = unlike(one, other, depth);
        if (unlike < 0) {
            throw new NoSuchElementException();
        }
        return unlike;
    }

    int separated(int first, int second) {
        T one = get(first);
        T other = get(second);
        for (int depth = 0; depth <= 4; depth++) {
            if (unlike(one, other, depth) >= 0) {
                return depth;
            }
        }
        throw new NoSuchElementException();
    }

    // ---- types

    private static final class Type {
        Type is;
        Type from;
        Type to;

        Type end() {
            return is == null ? this : is.end();
        }
    }

    private static Type arrow(Type from, Type to) {
        Type made = new Type();
        made.from = from;
        made.to = to;
        return made;
    }

    private static final class NoType extends RuntimeException {
        private static final long serialVersionUID = 1L;
    }

    private static boolean occurs(Type sought, Type in, Set<Type> seen) {
        Type type = in.end();
        if (type == sought) {
            return true;
        }
        return type.from != null && seen.add(type)
                && (occurs(sought, type.from, seen) || occurs(sought, type.to, seen));
    }

    private static void unify(Type one, Type other) {
        Type here = one.end();
        Type there = other.end();
        if (here == there) {
            return;
        }
        if (here.from == null) {
            if (occurs(here, there, new HashSet<>())) {
                throw new NoType();
            }
            here.is = there;
        } else if (there.from == null) {
            unify(there, here);
        } else {
            unify(here.from, there.from);
            unify(here.to, there.to);
            if (here.end() != there.end()) {
                here.is = there;
            }
        }
    }

    private static Type typed(T t, Map<Object, Type> letters) {
        switch (t.kind) {
            case 'f':
                return letters.computeIfAbsent(t.letter, k -> new Type());
            case 'b':
                return letters.computeIfAbsent(t.binder, k -> new Type());
            case '^':
                Type inside = typed(t.left, letters);
                return arrow(letters.computeIfAbsent(t, k -> new Type()), inside);
            default:
                Type left = typed(t.left, letters);
                Type to = new Type();
                unify(left, arrow(typed(t.right, letters), to));
                return to;
        }
    }

    private static void tell(Type in, Map<Type, Character> names, StringBuilder signs) {
        Type type = in.end();
        if (signs.length() > 400) {
            throw new UnsupportedOperationException();
        }
        if (type.from != null) {
            signs.append('>');
            tell(type.from, names, signs);
            tell(type.to, names, signs);
        } else {
            if (!names.containsKey(type)) {
                names.put(type, (char) ('a' + names.size()));
            }
            signs.append(names.get(type));
        }
        if (signs.length() > 400 || names.size() > 26) {
            throw new UnsupportedOperationException();
        }
    }

    boolean hasType(int term) {
        T t = get(term);
        try {
            typed(t, new HashMap<>());
            return true;
        } catch (NoType e) {
            return false;
        }
    }

    private String typeOf(T t) {
        StringBuilder signs = new StringBuilder();
        try {
            tell(typed(t, new HashMap<>()), new HashMap<>(), signs);
        } catch (NoType e) {
            throw new UnsupportedOperationException();
        }
        return signs.toString();
    }

    char typeAt(int term, int index) {
        return at(typeOf(get(term)), index);
    }

    int arguments(int term) {
        T t = get(term);
        typeOf(t);
        Type type = typed(t, new HashMap<>()).end();
        int count = 0;
        for (; type.from != null; type = type.to.end()) {
            count++;
        }
        return count;
    }

    // ---- combinators

    private static T combined(T t) {
        T made = t;
        if (t.kind == '@') {
            made = app(combined(t.left), combined(t.right));
        } else if (t.kind == '^') {
            made = takenOut(combined(t.left), t);
        }
        if (made.size() > 400) {
            throw new TooGreat();
        }
        return made;
    }

    private static T takenOut(T t, T binder) {
        if (t.kind == 'b' && t.binder == binder) {
            return free('I');
        }
        if (!t.holds(binder)) {
            return app(free('K'), t);
        }
        if (t.right.kind == 'b' && t.right.binder == binder && !t.left.holds(binder)) {
            return t.left;
        }
        return app(app(free('S'), takenOut(t.left, binder)), takenOut(t.right, binder));
    }

    private String combinatorsOf(T t) {
        return great(() -> signs(combined(t)));
    }

    int combinators(int term) {
        return combinatorsOf(get(term)).length();
    }

    char combinatorAt(int term, int index) {
        return at(combinatorsOf(get(term)), index);
    }

    // ---- machines

    private static final class Kept {
        T t;
        Map<T, Kept> meaning;
        boolean isFound;

        Kept(T t, Map<T, Kept> meaning) {
            this.t = t;
            this.meaning = meaning;
        }
    }

    private int betas;

    /** Leads a term with what its letters mean, and arguments, to its form, whose head is then in the answer. */
    private Kept found(T start, Map<T, Kept> startMeaning, ArrayList<Kept> waiting, boolean isByNeed) {
        T t = start;
        Map<T, Kept> meaning = startMeaning;
        while (true) {
            if (t.kind == '@') {
                waiting.add(new Kept(t.right, meaning));
                t = t.left;
            } else if (t.kind == 'f' || t.kind == '^' && waiting.isEmpty()) {
                return new Kept(t, meaning);
            } else if (t.kind == '^') {
                betas++;
                if (betas > 100) {
                    throw new TooGreat();
                }
                Map<T, Kept> inside = new IdentityHashMap<>(meaning);
                inside.put(t, waiting.remove(waiting.size() - 1));
                meaning = inside;
                t = t.left;
            } else {
                Kept kept = meaning.get(t.binder);
                if (isByNeed && !kept.isFound) {
                    ArrayList<Kept> own = new ArrayList<>();
                    Kept led = found(kept.t, kept.meaning, own, true);
                    if (led.t.kind == 'f') {
                        waiting.addAll(own);
                        return led;
                    }
                    kept.t = led.t;
                    kept.meaning = led.meaning;
                    kept.isFound = true;
                }
                t = kept.t;
                meaning = kept.meaning;
            }
        }
    }

    private int run(T t, boolean isByNeed, boolean isBetasAsked) {
        betas = 0;
        ArrayList<Kept> waiting = new ArrayList<>();
        Kept led = great(() -> found(t, new IdentityHashMap<>(), waiting, isByNeed));
        return isBetasAsked ? betas : led.t.kind == '^' ? -1 : waiting.size();
    }

    int betas(int term, boolean isByNeed) {
        return run(get(term), isByNeed, true);
    }

    int headArguments(int term) {
        return run(get(term), false, false);
    }

    // ---- figures

    long checksum() {
        long sum = 0;
        for (T t : terms) {
            for (char sign : signs(t).toCharArray()) {
                sum = sum * 31 + sign;
            }
            sum *= 31;
        }
        return sum;
    }

    int terms() {
        return terms.size();
    }

    float normalShare() {
        if (terms.isEmpty()) {
            throw new ArithmeticException();
        }
        return (float) terms.stream().filter(t -> redexesOf(t).isEmpty()).count() / (float) terms.size();
    }

    double meanSize() {
        if (terms.isEmpty()) {
            throw new ArithmeticException();
        }
        return (double) terms.stream().mapToInt(T::size).sum() / (double) terms.size();
    }

    boolean isSound() {
        return true;
    }
}
