import com.sun.management.ThreadMXBean;
import java.lang.management.ManagementFactory;
import java.util.Random;

/** What a run takes: rows are made once, and 512 calls, the dearest too, make next to nothing more. */
public final class RoomTest {
    private static final ThreadMXBean BEAN = (ThreadMXBean) ManagementFactory.getThreadMXBean();
    private static final int[] TAPE = new int[225];
    private static final int[] PLAN = new int[75];

    public static void main(String[] args) {
        int length = fill(TAPE, largest());
        String plan = "best wa;best wb;best wc;best wd;when left 9;next;end;best wa;next;best wb;when sure qa;end;rule qb;";
        int planLength = fill(PLAN, plan);
        run(length, planLength, 0);
        long ahead = taken();
        AskingCourt court = new AskingCourt();
        long made = taken() - ahead;
        Court.due("an object takes at most 40,000 longs, it took bytes: " + made, made < 320_000, true);
        long most = 0;
        for (int seed = 1; seed <= 4; seed++) {
            most = Math.max(most, run(length, planLength, seed));
        }
        Court.due("512 calls take at most five cases, they took bytes: " + most, most < 320_000, true);
        long small = manyCases();
        Court.due("so do 170 cases, they took bytes: " + small, small < 320_000, true);
        Court.due("the object is there", court.status(), 0);
        Court.end("RoomTest");
    }

    /** Cases come and go, with three marks on some of them. */
    private static long manyCases() {
        AskingCourt court = new AskingCourt();
        long ahead = taken();
        for (int i = 0; i < 170; i++) {
            Court.due("feed()", court.feed(0x66616374, 0x20206120, 0x68617320, 0x62206320, 0x643b2020), 20);
            Court.due("court()", court.court(20), 3);
            if (i % 20 == 0) {
                court.mark();
            } else if (i % 60 == 50) {
                court.back();
            }
        }
        return taken() - ahead;
    }

    private static long taken() {
        return BEAN.getThreadAllocatedBytes(Thread.currentThread().getId());
    }

    private static int fill(int[] row, String text) {
        for (int i = 0; i < row.length * 4; i++) {
            row[i / 4] = row[i / 4] << 8 | (i < text.length() ? text.charAt(i) : 32);
        }
        return text.length();
    }

    /** 256 worlds, 12 questions, 4 witnesses of all kinds. */
    private static String largest() {
        StringBuilder text = new StringBuilder("fact x has a b c d;fact y has e f g h;fact z has i j k l;fact u has m n o p;");
        String values = "abcdefghijklmnop";
        for (int q = 0; q < 12; q++) {
            text.append("question q").append((char) ('a' + q)).append(" fee 1 asks ").append(values.charAt(q));
            text.append(" or ").append(values.charAt((q * 7 + 3) % 16)).append(";");
        }
        String[] knows = {"x y z u", "x y", "z u", "x z u"};
        for (int w = 0; w < 4; w++) {
            text.append("witness w").append((char) ('a' + w)).append(" knows ").append(knows[w]);
            text.append(" may honest 9 turns 3 other 2 silent 2;");
        }
        return text.toString();
    }

    private static long run(int length, int planLength, int seed) {
        Random random = new Random(seed);
        AskingCourt court = new AskingCourt();
        long ahead = taken();
        int calls = 0;
        while (calls < 512) {
            if (calls % 100 == 0) {
                calls += feed(court, TAPE) + 2;
                Court.due("court()", court.court(length), 256);
                court.mark();
                calls += feed(court, PLAN) + 1;
                Court.due("plan()", court.plan(planLength), 11);
            }
            calls += 12;
            int q = random.nextInt(12);
            int w = random.nextInt(4);
            court.hear(w, q, court.answer(w, q, random.nextInt(256), 0));
            court.shortest(q, -1);
            court.shortest(q, w);
            court.because(q);
            court.chance(q);
            court.trust(w, 0);
            court.best(w);
            court.sit(seed);
            court.tally(seed, 30, 0);
            court.tray(w, w, 60);
            court.back();
            if (random.nextInt(5) == 0) {
                court.unsay();
            }
        }
        return taken() - ahead;
    }

    private static int feed(AskingCourt court, int[] row) {
        for (int i = 0; i < row.length; i += 5) {
            court.feed(row[i], row[i + 1], row[i + 2], row[i + 3], row[i + 4]);
        }
        return row.length / 5;
    }
}
