import java.util.Random;

/** No call may throw, whatever the numbers and the state; and the longest RUN, with all that can wait, ends. */
public final class NeverThrows {
    private static final int[] EDGES = {Integer.MIN_VALUE, -1000000, -2, -1, 0, 1, 2, 3, 4, 5, 6, 12, 15, 16, 39, 40, 239, 240, 241, 1439, 1440,
        1999, 2000, 30000, 65536, Integer.MAX_VALUE - 20, Integer.MAX_VALUE};
    private static final Random DICE = new Random(7);

    public static void main(String[] args) {
        for (int i = 0; i < 60; i++) {
            anyNumbers(i);
        }
        fullHouse();
        Check.done();
    }

    private static int any() {
        return DICE.nextInt(4) == 0 ? DICE.nextInt() : EDGES[DICE.nextInt(EDGES.length)];
    }

    private static void anyNumbers(int round) {
        SaltOffice x = round % 2 == 0 ? new SaltOffice() : Check.office(Check.LAND, "rate 20; class age > 1; coin 3; most 40;", 1000, 500);
        for (int i = 0; i < 500; i++) {
            call(x, DICE.nextInt(25));
        }
        Check.due("about(99)", x.about(99), -1);
    }

    private static void call(SaltOffice x, int which) {
        switch (which) {
            case 0: x.feed(any(), any(), any(), any(), any()); break;
            case 1: x.end(any()); break;
            case 2: x.land(); break;
            case 3: x.reform(any()); break;
            case 4: x.fault(any()); break;
            case 5: x.days(any(), any()); break;
            case 6: x.merchant(any()); break;
            case 7: x.costs(any(), any(), any(), any(), any()); break;
            case 8: x.weather(any(), any(), any()); break;
            case 9: x.forged(any(), any()); break;
            case 10: x.dead(any(), any(), any()); break;
            case 11: x.untell(any()); break;
            case 12: x.later(any()); break;
            case 13: x.run(any(), any(), any()); break;
            case 14: x.ran(any()); break;
            case 15: x.fort(any(), any(), any()); break;
            case 16: x.pan(any(), any(), any()); break;
            case 17: x.town(any(), any(), any()); break;
            case 18: x.book(any(), any(), any()); break;
            case 19: x.paper(any(), any()); break;
            case 20: x.way(any(), any()); break;
            case 21: x.worth(any()); break;
            case 22: x.judge(any(), any(), any(), any()); break;
            default: x.about(any());
        }
    }

    /** Every MERCHANT takes a PAPER in every MONTH, and none ever draws: as many PAPERS as there can be. */
    private static void fullHouse() {
        SaltOffice x = Check.office("pan s at p0 makes 0 0 0 0 0 0 0 0 0 0 0 0 serves 0; town t at p0 of 0 wants 9 price 999 grain 0 cost 1;",
            "coin 1; most 9999; class sacks > 900; class age > 9 and waiting > 99; class made; class month = 5;",
            30000, 30000, 30000, 30000, 30000, 30000);
        x.costs(0, 1, 0, 9999, 999);
        Check.due("as many PAPERS as there can be", x.run(0, 240, 0), 1440);
        Check.due("all wait", x.ran(6), 1440);
        Check.due("their sacks", x.ran(7), 14400);
        Check.due("the last of them", x.paper(1439, 3), 239);
        Check.due("coins of the state", x.ran(2), 14400);
        Check.due("judge", x.judge(0, 0, 240, 0), 2);
        // All draw as soon as they can: a load for each.
        SaltOffice y = Check.office("road p0 p1 90;road p1 p2 90;pan s at p0 makes" + Check.times(" 999", 12)
            + " serves 0; town t at p2 of 0 wants 999 price 999 grain 0 cost 1;", "coin 1; most 9999;", 30000, 30000, 30000, 30000, 30000, 30000);
        y.costs(0, 1, 0, 9999, 999);
        Check.due("PAPERS", y.run(0, 240, 0), 1440);
        Check.due("drawn", y.ran(9), 1434);
        Check.due("sold", y.ran(1), 10 * 6 * (240 - 7));
    }
}
