import com.sun.management.ThreadMXBean;
import java.lang.management.ManagementFactory;

/** A run of 512 calls makes little, whichever calls they are: all runs live in one room. */
public final class RoomTest {
    private static final String BEACH = "beach 5 5;row 95432;row 43215;row 34213;row 12321;row 21232"
            + ";flag 6 5 10;flag 7 6 20;flag 12 7 30;flag 3 3 7;flag 22 18 50;flag 1 2 9"
            + ";wave 9;wave 13;wave 7;wave 20;wave 12;swell 3 4 3";
    private static final String RULE = "take 1 if strength>low;take 2 if wet=1 and [force>9 or flags>0]";
    private static final long BYTES = 200_000;

    private static int call(TideCastle x, int which, int i) {
        switch (which) {
            case 0:
                return x.dig(2, 2, i % 4);
            case 1:
                return x.rival(2, i % 2);
            case 2:
                return x.wall(i % 6, 0);
            case 3:
                return x.tides(10, 60, 0);
            case 4:
                return x.look(60, 0) + x.ruled(0);
            case 5:
                return x.giveUp(60, 0) + x.borne(i % 6) + x.odds(i % 6, 0);
            case 6:
                return x.wave() + x.image(i % 4);
            case 7:
                return x.spade(i % 25, i % 4) + x.back(i % 4) + x.undo();
            case 8:
                return x.way(i % 25, 0) + x.ahead(0, 100, 0) + x.falls(0) + x.high(0, i % 25);
            case 9:
                return i % 9 == 8 ? x.beach() : x.feed(0x62656163, 0x68203220, 0x323b7761, 0x76652031, i);
            default:
                return x.count(i % 14) + x.cell(i % 25, i % 4) + x.log(i % 60, 0, 2) + x.seed(i);
        }
    }

    public static void main(String[] args) {
        ThreadMXBean bean = (ThreadMXBean) ManagementFactory.getThreadMXBean();
        long id = Thread.currentThread().getId();
        int sum = 0;
        int wrong = 0;
        for (int which = 0; which <= 10; which++) {
            for (int again = 0; again < 2; again++) {
                long ahead = bean.getThreadAllocatedBytes(id);
                TideCastle x = Check.on(BEACH, RULE);
                for (int i = 0; i < 512; i++) {
                    sum += call(x, which, i);
                }
                long made = bean.getThreadAllocatedBytes(id) - ahead;
                if (again == 1 && made > BYTES) {
                    wrong++;
                    System.out.println("calls " + which + " made " + made + " bytes");
                }
            }
        }
        System.out.println("room: " + wrong + " wrong (" + sum + ")");
        if (wrong != 0) {
            System.exit(1);
        }
    }
}
