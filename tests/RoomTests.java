import java.lang.management.ManagementFactory;

/** All calls of a run share one room: an object is small, and its calls make nothing but the exceptions they throw. */
public final class RoomTests {
    private static final long MOST_FOR_AN_OBJECT = 400_000;
    private static final long MOST_FOR_A_CALL = 1_000;

    private static long allocated() {
        com.sun.management.ThreadMXBean bean = (com.sun.management.ThreadMXBean) ManagementFactory.getThreadMXBean();
        return bean.getThreadAllocatedBytes(Thread.currentThread().getId());
    }

    private static void add(Boehmgarth g, String text) {
        for (int i = 0; i < text.length(); i++) {
            g.type(text.charAt(i));
        }
        g.term();
    }

    interface Call {
        void make();
    }

    private static void tried(Call call) {
        try {
            call.make();
        } catch (RuntimeException e) {
            // What is thrown is looked at by the other tests.
        }
    }

    private static int askAll(Boehmgarth g, int term) {
        tried(() -> g.typeAt(term, 0));
        tried(() -> g.treeSigns(term, 4));
        tried(() -> g.treeAt(term, 3, 1));
        tried(() -> g.unlikeAt(term, 0, 4));
        tried(() -> g.separated(term, 1));
        tried(() -> g.combinators(term));
        tried(() -> g.combinatorAt(term, 1));
        tried(() -> g.betas(term, true));
        tried(() -> g.betas(term, false));
        tried(() -> g.headArguments(term));
        tried(() -> g.best(term));
        tried(() -> g.joins(term, 0, 1));
        tried(() -> g.residuals(term, 0, 1));
        tried(() -> g.reduce(term, 'p', 60));
        tried(() -> g.step(term, 'n'));
        tried(() -> g.eta(term));
        tried(() -> g.numberOf(term));
        tried(() -> g.hasType(term));
        tried(() -> g.isSolved(term));
        g.checksum();
        g.isSound();
        return 21;
    }

    public static void main(String[] args) {
        String[] texts = {"(^x.^f.f(xxf)(xxf)(xxf))(^x.^f.f(xxf)(xxf)(xxf))", "(^x.xx)(^x.xx)", "(^x.xxx)(^x.xxx)",
            "^x.^y.^z.xz(yz)", "(^f.^x.f(f(fx)))(^f.^x.f(f(fx)))", "(^x.xx)((^y.y)a)"};
        allocated();
        long before = allocated();
        Boehmgarth g = new Boehmgarth();
        long made = allocated() - before;
        for (String text : texts) {
            add(g, text);
        }
        // The first round loads classes.
        for (int i = 0; i < texts.length; i++) {
            askAll(g, i);
        }
        before = allocated();
        int calls = 0;
        for (int round = 0; round < 4; round++) {
            for (int i = 0; i < texts.length; i++) {
                calls += askAll(g, i);
            }
        }
        long each = (allocated() - before) / calls;
        System.out.println(made + " bytes for an object, " + each + " for a call");
        if (made > MOST_FOR_AN_OBJECT || each > MOST_FOR_A_CALL) {
            System.exit(1);
        }
    }
}
