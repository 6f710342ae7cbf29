import java.lang.management.ManagementFactory;

/** All calls of a run share one room: an object and 512 of its dearest calls stay far below it. */
public final class RoomTests {
    private static final int CALLS = 512;

    /** 7.3 million fields and elements of four bytes. */
    private static final long ROOM = 4 * 7_300_000L;

    private static final String[] TEXTS = {"(^x.^f.f(xxf)(xxf)(xxf))(^x.^f.f(xxf)(xxf)(xxf))", "(^x.xx)(^x.xx)",
        "(^x.xxx)(^x.xxx)", "^x.^y.^z.xz(yz)", "(^f.^x.f(f(fx)))(^f.^x.f(f(fx)))", "(^x.xx)((^y.y)a)"};

    private static long allocated() {
        com.sun.management.ThreadMXBean bean = (com.sun.management.ThreadMXBean) ManagementFactory.getThreadMXBean();
        return bean.getThreadAllocatedBytes(Thread.currentThread().getId());
    }

    private static void add(Boehmgarth g, String text) {
        for (int i = 0; i < text.length(); i++) {
            g.type(text.charAt(i));
        }
        g.term();
    }

    interface Call {
        Object make(Boehmgarth g, int term);
    }

    private static final Call[] DEAR = {(g, t) -> g.typeAt(t, 0), (g, t) -> g.treeSigns(t, 4), (g, t) -> g.treeAt(t, 3, 1),
        (g, t) -> g.unlikeAt(t, 0, 4), (g, t) -> g.separated(t, 1), (g, t) -> g.combinators(t),
        (g, t) -> g.combinatorAt(t, 1), (g, t) -> g.betas(t, true), (g, t) -> g.betas(t, false),
        (g, t) -> g.headArguments(t), (g, t) -> g.best(t), (g, t) -> g.joins(t, 0, 1), (g, t) -> g.residuals(t, 0, 1),
        (g, t) -> g.reduce(t, 'a', 60), (g, t) -> g.contract(t, 7), (g, t) -> g.numberOf(t), (g, t) -> g.hasType(t),
        (g, t) -> g.isSolved(t), (g, t) -> g.checksum(), (g, t) -> g.isSound(), (g, t) -> g.term()};

    private static void tried(Call call, Boehmgarth g, int term) {
        try {
            call.make(g, term);
        } catch (RuntimeException e) {
            // What is thrown is looked at by the other tests.
        }
    }

    /** A run of one dear call again and again, on a new object: how many bytes were made in it. */
    private static long runOf(Call call) {
        long before = allocated();
        Boehmgarth g = new Boehmgarth();
        int calls = 0;
        for (String text : TEXTS) {
            add(g, text);
            calls += text.length() + 1;
        }
        for (; calls < CALLS; calls++) {
            tried(call, g, calls % TEXTS.length);
        }
        return allocated() - before;
    }

    public static void main(String[] args) {
        // The first round loads classes.
        for (Call call : DEAR) {
            runOf(call);
        }
        long most = 0;
        for (Call call : DEAR) {
            most = Math.max(most, runOf(call));
        }
        System.out.println("the dearest run makes " + most + " bytes of " + ROOM);
        if (most > ROOM) {
            System.exit(1);
        }
    }
}
