import java.lang.management.ManagementFactory;

/** All calls of a run live in one room: so 512 of the dearest calls may make next to nothing. */
public final class RoomTest {
    private static final int KILOBYTE = 1024;
    private static final int MOST_FOR_AN_OBJECT = 200 * KILOBYTE;
    private static final int MOST_FOR_ITS_CALLS = 100 * KILOBYTE;
    private static final int CALLS = 512;

    public static void main(String[] args) {
        long wasted = run() + run();
        long start = made();
        FeatureDesk x = new FeatureDesk();
        long forObject = made() - start;
        start = made();
        wasted += calls(x);
        long forCalls = made() - start;
        System.out.println("an object makes " + forObject + " bytes, its calls " + forCalls + " (" + wasted % 10 + ")");
        if (forObject > MOST_FOR_AN_OBJECT || forCalls > MOST_FOR_ITS_CALLS) {
            System.out.println("that is too much");
            System.exit(1);
        }
    }

    private static long made() {
        com.sun.management.ThreadMXBean threads = (com.sun.management.ThreadMXBean) ManagementFactory.getThreadMXBean();
        return threads.getThreadAllocatedBytes(Thread.currentThread().getId());
    }

    private static long run() {
        return calls(new FeatureDesk());
    }

    private static long calls(FeatureDesk x) {
        String text = "!(a<5&(#1-20|b>3))|*%333,333,333";
        long sum = 0;
        int made = 0;
        for (int key = 1; key <= 24; key++, made++) {
            sum += x.person(key, 400 * key);
        }
        for (int f = 0; f < 12; f++, made++) {
            sum += x.feature(3);
        }
        for (int f = 1; f < 12; f++, made++) {
            sum += x.needs(f, f - 1, 0);
        }
        for (int i = 0; i < 6; i++, made += text.length() + 1) {
            for (int k = 0; k < text.length(); k++) {
                x.feed(text.charAt(k));
            }
            sum += x.rule(i % 2);
        }
        for (int i = 0; made < CALLS; i++, made++) {
            sum += dear(x, i);
        }
        return sum;
    }

    private static long dear(FeatureDesk x, int i) {
        switch (i % 12) {
            case 0:
                return x.shakes(0);
            case 1:
                return x.grow(0, 0, 1, 24);
            case 2:
                return x.moved(0, 0, 1, 0);
            case 3:
                return x.later(11, 7, 9);
            case 4:
                return x.days(60);
            case 5:
                return x.spelled(0, 0, 9);
            case 6:
                return x.path(11, 5, 3, 1);
            case 7:
                return x.row(i % 8, 3, 40);
            case 8:
                return x.show(i % 8, 0, 0, 1);
            case 9:
                return x.image();
            case 10:
                return x.back();
            default:
                return x.says(i % 8, 0);
        }
    }
}
