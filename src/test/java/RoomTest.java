import java.lang.management.ManagementFactory;

/** No call makes an object: what an object's 512 dearest calls take of the room is next to nothing. */
public final class RoomTest {
    private static final long BOUND = 64 * 1024;

    public static void main(String[] args) {
        dearest(64);
        long before = taken();
        long sum = dearest(512);
        long room = taken() - before;
        Due.that("room of 512 calls: " + room + " bytes", room < BOUND);
        Due.that("answers", sum != 0);
        Due.finish();
    }

    private static long taken() {
        return ((com.sun.management.ThreadMXBean) ManagementFactory.getThreadMXBean()).getCurrentThreadAllocatedBytes();
    }

    private static long dearest(int calls) {
        CellsInRow x = new CellsInRow();
        String text = "pump 99 0 1;share 99 9 1;bleed 99 50 0;plain 99 50 0;pump 9 9 1;"
            + "plan 18 0 18 0 9 3 14 5 17 2 10 8 12 7 11 4;";
        for (int i = 0; i < text.length(); i++) {
            x.feed(text.charAt(i));
        }
        long sum = x.text();
        for (int i = 0; i < calls - text.length() - 1; i++) {
            switch (i % 12) {
                case 0: sum += x.swap(200, 0); break;
                case 1: sum += x.begin(0, 200, 1); break;
                case 2: sum += x.need(0, 200); break;
                case 3: sum += x.luck(5, 8, 0); break;
                case 4: sum += x.mean(5, 8, 1); break;
                case 5: sum += x.ask(0, 0); break;
                case 6: sum += x.leaks(1); break;
                case 7: sum += x.bridge(200, 1); break;
                case 8: sum += x.sheet(i % 4, 2, 40); break;
                case 9: sum += x.keep(i % 2); break;
                case 10: sum += x.back(1); break;
                default: sum += x.read(i % 4, 2, 0, 20); break;
            }
        }
        return sum;
    }
}
