import java.lang.management.ManagementFactory;

/** No call but the constructor may make an object, for all calls of a run live in one room. */
public final class RoomTest {
    private static final String LETTERS = "abcdefghijklmnopqrstuvwxyz";

    private static int answers;

    public static void main(String[] args) {
        Check check = new Check("RoomTest");
        com.sun.management.ThreadMXBean threads =
            (com.sun.management.ThreadMXBean) ManagementFactory.getThreadMXBean();
        long thread = Thread.currentThread().getId();
        answers += new CommaOrphans().look(0) + (int) (threads.getThreadAllocatedBytes(thread) & 1);
        long start = threads.getThreadAllocatedBytes(thread);
        CommaOrphans x = new CommaOrphans();
        long made = threads.getThreadAllocatedBytes(thread);
        check.due("a new object takes " + (made - start) + " bytes, at most 40,000", made - start <= 40000, true);
        int[][] texts = {bytes("pay long*2+used when left<29 and not owner=2;pay place-day;"), bytes("abcd efgh,ij"),
            bytes(LETTERS.substring(0, 12))};
        useAll(x, texts);
        long before = threads.getThreadAllocatedBytes(thread);
        for (int turn = 0; turn < 20; turn++) {
            useAll(x, texts);
        }
        long after = threads.getThreadAllocatedBytes(thread);
        check.due("calls make nothing: " + (after - before) + " bytes", after - before < 2000, true);
        check.due("calls were made", answers != 0, true);
        check.close();
    }

    private static int[] bytes(String text) {
        int[] row = new int[(text.length() + 19) / 20 * 5 + 1];
        for (int i = 0; i < text.length(); i++) {
            row[i / 4] |= text.charAt(i) << 24 - i % 4 * 8;
        }
        row[row.length - 1] = text.length();
        return row;
    }

    private static void feed(CommaOrphans x, int[] row) {
        for (int i = 0; i + 5 < row.length; i += 5) {
            x.feed(row[i], row[i + 1], row[i + 2], row[i + 3], row[i + 4]);
        }
        x.end(row[row.length - 1]);
    }

    private static void useAll(CommaOrphans x, int[][] texts) {
        x.state(5);
        x.apprentice(5, 3);
        x.image(true);
        for (int s = 0; s < 29; s++) {
            x.own(s, s % Math.max(1, x.look(0)));
        }
        x.set(0, 0, 300);
        feed(x, texts[0]);
        answers += x.text();
        feed(x, texts[0]);
        answers += x.page();
        feed(x, texts[1]);
        answers += x.page();
        feed(x, texts[2]);
        answers += x.word();
        for (int i = 0; i < 7; i++) {
            answers += x.print();
        }
        for (int a = 0; a < 8; a++) {
            answers += x.of(a, 6) + x.buy(a, 0) + x.hurts(a, 0) + x.hurts(a, 1);
        }
        answers += x.pays(3) + x.fewest(0) + x.swap(0) + x.can() + x.liars() + x.roll(0, 0) + x.sign(1, 2) + x.at(0);
        answers += x.undo() ? 1 : 0;
        answers += x.day();
        x.image(false);
        answers += x.clear() + x.fault(0) + x.look(8);
    }
}
