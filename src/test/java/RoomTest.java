import java.lang.management.ManagementFactory;
import java.util.function.Consumer;

/** All calls of a run live in one room: what an object makes in its 512 calls stays small. */
public final class RoomTest {
    private static final int CALLS = 512;
    private static final Check CHECK = new Check();

    public static void main(String[] args) {
        if (!(ManagementFactory.getThreadMXBean() instanceof com.sun.management.ThreadMXBean)) {
            System.out.println("this machine does not tell what a thread makes");
            return;
        }
        // an object with the rows of its first shift has some 52000 elements, most of them of eight bytes
        holds("shift", 500000, RoomTest::kinds, x -> x.shift(100, 100, 0));
        holds("a new object alone", 16000, x -> { }, x -> x.count(0));
        holds("move", 16000, x -> { }, x -> x.move(10));
        holds("spans", 16000, x -> { }, RoomTest::text);
        holds("pass", 16000, x -> { }, x -> x.pass(9));
        holds("lay and drop", 16000, x -> { }, x -> {
            x.lay(0, 1, 1, 0);
            x.drop(0);
        });
        holds("blow, pass, lay", 64000, RoomTest::kinds, RoomTest::work);
        holds("refused calls", 16000, x -> { }, RoomTest::refused);
        CHECK.finish();
    }

    private static void kinds(GlassHut x) {
        for (int k = 0; k < 5; k++) {
            x.kind(k, 1 + k, 1 + k, 10 + k, -1, 2, 1);
        }
        x.right(0, 10000);
        x.cut(10000);
        x.rate(20);
    }

    private static void text(GlassHut x) {
        x.feed(0x61203020, 0x35303B62, 0x20353120, 0x31303000, 0);
        x.end(15);
        x.spans();
    }

    private static void work(GlassHut x) {
        x.lay(0, 1, 200, 0);
        x.pass(1);
        x.blow(0, 0, 0);
        x.pay(0);
    }

    private static void refused(GlassHut x) {
        x.right(-1, 0);
        x.shift(-1, 0, 0);
        x.move(11);
        x.lay(6, 1, 1, 1);
        x.piece(0, 0);
        x.kind(5, 0, 0, 0, 0, 0, 0);
    }

    private static void holds(String name, long most, Consumer<GlassHut> begin, Consumer<GlassHut> call) {
        // once ahead, so that what the machine makes for itself is made
        run(begin, call);
        long bytes = run(begin, call);
        CHECK.due(name + " made " + bytes + " bytes, at most " + most + " are due", bytes <= most, true);
    }

    private static long run(Consumer<GlassHut> begin, Consumer<GlassHut> call) {
        com.sun.management.ThreadMXBean told = (com.sun.management.ThreadMXBean) ManagementFactory.getThreadMXBean();
        long id = Thread.currentThread().getId();
        long before = told.getThreadAllocatedBytes(id);
        GlassHut x = new GlassHut();
        begin.accept(x);
        for (int k = 0; k < CALLS; k++) {
            call.accept(x);
        }
        return told.getThreadAllocatedBytes(id) - before;
    }
}
