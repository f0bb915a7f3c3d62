/** The boundary cases of "Relays" and "Selectivity" and of promises 6, 34, 36 and 37. */
public final class EdgeRelaysTest {
    private static final Class<IllegalArgumentException> ARGUMENT = IllegalArgumentException.class;
    private static final Class<IllegalStateException> STATE = IllegalStateException.class;
    private static final Class<UnsupportedOperationException> UNSUPPORTED = UnsupportedOperationException.class;
    private static final Check CHECK = new Check("EdgeRelaysTest");

    public static void main(String[] args) {
        pickupFrom1To999();
        multiplierFrom1To10();
        stepGreaterThanThePickup();
        newRelay();
        onlyBreakersHaveRelays();
        currentFrom1To99999();
        currentGreaterThanThePickup();
        stepNotGreaterThanTheCurrent();
        noStep();
        roundedDown();
        leastAndGreatestTimes();
        eachLineHasItsOwnRelay();
        selectiveOnlyIfClosedAndLive();
        selectiveOnlyByABreaker();
        selectiveOnlyByItsOwnRelay();
        marginOfNothing();
        marginWithoutAnotherRelay();
        otherRelaysThatDoNotTrip();
        leastOfTheOthers();
        CHECK.end();
    }

    private static Switchgear oneLine() {
        Switchgear gear = Net.sourceAndBuses(100, 0);
        gear.addLine(0, 1, 70, true);
        return gear;
    }

    /** "a pickup from 1 to 999". */
    private static void pickupFrom1To999() {
        Switchgear gear = oneLine();
        for (int pickup : new int[] {0, -1, -999, 1000, 1001, Integer.MIN_VALUE, Integer.MAX_VALUE}) {
            CHECK.throwing("setRelay(0, " + pickup + ", 1, 0)", ARGUMENT, () -> gear.setRelay(0, pickup, 1, 0));
            CHECK.throwing("setRelay(0, " + pickup + ", 10, 2000)", ARGUMENT,
                () -> gear.setRelay(0, pickup, 10, 2000));
        }
        CHECK.same("the pickup after it", gear.setRelay(0, 1, 1, 0), 70);
        CHECK.same("setRelay after 1", gear.setRelay(0, 2, 1, 0), 1);
        CHECK.same("setRelay after 2", gear.setRelay(0, 998, 1, 0), 2);
        CHECK.same("setRelay after 998", gear.setRelay(0, 999, 1, 0), 998);
        CHECK.same("setRelay after 999", gear.setRelay(0, 999, 1, 0), 999);
    }

    /** "a multiplier from 1 to 10". */
    private static void multiplierFrom1To10() {
        Switchgear gear = oneLine();
        for (int multiplier : new int[] {0, -1, -10, 11, 12, Integer.MIN_VALUE, Integer.MAX_VALUE}) {
            CHECK.throwing("setRelay(0, 9, " + multiplier + ", 0)", ARGUMENT,
                () -> gear.setRelay(0, 9, multiplier, 0));
            CHECK.throwing("setRelay(0, 999, " + multiplier + ", 1000)", ARGUMENT,
                () -> gear.setRelay(0, 999, multiplier, 1000));
        }
        CHECK.same("the pickup after it", gear.setRelay(0, 70, 1, 0), 70);
        for (int multiplier = 1; multiplier <= 10; multiplier++) {
            CHECK.same("setRelay", gear.setRelay(0, 70, multiplier, 0), 70);
            CHECK.same("tripTime by " + multiplier, gear.tripTime(0, 77), multiplier * 100 + 2);
        }
    }

    /** "an instant step, which is greater than the pickup, or 0 for none". */
    private static void stepGreaterThanThePickup() {
        Switchgear gear = oneLine();
        for (int pickup : new int[] {1, 2, 500, 999}) {
            for (int step : new int[] {pickup, pickup - 1, 1, -1, -pickup, Integer.MIN_VALUE}) {
                if (step != 0) {
                    CHECK.throwing("setRelay(0, " + pickup + ", 1, " + step + ")", ARGUMENT,
                        () -> gear.setRelay(0, pickup, 1, step));
                }
            }
        }
        CHECK.same("the pickup after it", gear.setRelay(0, 1, 1, 2), 70);
        CHECK.same("tripTime above pickup 1 and at step 2", gear.tripTime(0, 2), 1);
        CHECK.same("setRelay(0, 999, 1, 1000)", gear.setRelay(0, 999, 1, 1000), 1);
        CHECK.same("tripTime at step 1000", gear.tripTime(0, 1000), 1);
        CHECK.same("setRelay(0, 1, 1, 0)", gear.setRelay(0, 1, 1, 0), 999);
        CHECK.same("tripTime without a step", gear.tripTime(0, 2), 12);
        CHECK.same("setRelay(0, 1, 1, 99999)", gear.setRelay(0, 1, 1, 99999), 1);
        CHECK.same("tripTime below step 99999", gear.tripTime(0, 99998), 2);
        CHECK.same("tripTime at step 99999", gear.tripTime(0, 99999), 1);
        CHECK.same("setRelay with the greatest step", gear.setRelay(0, 1, 1, Integer.MAX_VALUE), 1);
        CHECK.same("tripTime below it", gear.tripTime(0, 99999), 2);
    }

    /** "A new relay has the rating of the line as its pickup, the multiplier 1 and no instant step." */
    private static void newRelay() {
        for (int rating : new int[] {1, 2, 70, 998, 999}) {
            Switchgear gear = Net.sourceAndBuses(100, 0);
            gear.addLine(0, 1, rating, true);
            CHECK.same("tripTime at the rating", gear.tripTime(0, rating), -1);
            CHECK.same("tripTime above the rating", gear.tripTime(0, rating + 1), 10 * rating + 2);
            CHECK.same("tripTime at twice the rating", gear.tripTime(0, 2 * rating), 12);
            CHECK.same("tripTime of the greatest current", gear.tripTime(0, 99999),
                10 * rating / (99999 - rating) + 2);
            CHECK.same("setRelay", gear.setRelay(0, 5, 1, 0), rating);
        }
    }

    /** "Throws UnsupportedOperationException if it is not switched by a breaker." */
    private static void onlyBreakersHaveRelays() {
        Switchgear gear = oneLine();
        gear.addLine(1, 0, 70, false);
        CHECK.throwing("setRelay(1, 1, 1, 0)", UNSUPPORTED, () -> gear.setRelay(1, 1, 1, 0));
        CHECK.throwing("setRelay(1, 999, 10, 1000)", UNSUPPORTED, () -> gear.setRelay(1, 999, 10, 1000));
        CHECK.throwing("tripTime(1, 1)", UNSUPPORTED, () -> gear.tripTime(1, 1));
        CHECK.throwing("tripTime(1, 99999)", UNSUPPORTED, () -> gear.tripTime(1, 99999));
        CHECK.same("tripTime(0, 71)", gear.tripTime(0, 71), 702);
    }

    /** "the current, 1 to 99999". */
    private static void currentFrom1To99999() {
        Switchgear gear = oneLine();
        for (int current : new int[] {0, -1, -99999, 100000, 100001, Integer.MIN_VALUE, Integer.MAX_VALUE}) {
            CHECK.throwing("tripTime(0, " + current + ")", ARGUMENT, () -> gear.tripTime(0, current));
        }
        CHECK.same("tripTime(0, 1)", gear.tripTime(0, 1), -1);
        CHECK.same("tripTime(0, 99998)", gear.tripTime(0, 99998), 2);
        CHECK.same("tripTime(0, 99999)", gear.tripTime(0, 99999), 2);
    }

    /** "For a current that is not greater than the pickup a relay does not trip." */
    private static void currentGreaterThanThePickup() {
        Switchgear gear = oneLine();
        for (int pickup : new int[] {1, 2, 500, 999}) {
            gear.setRelay(0, pickup, 1, pickup + 1);
            CHECK.same("tripTime at the pickup " + pickup, gear.tripTime(0, pickup), -1);
            CHECK.same("tripTime of 1", gear.tripTime(0, 1), -1);
            CHECK.same("tripTime above the pickup", gear.tripTime(0, pickup + 1), 1);
            gear.setRelay(0, pickup, 1, 0);
            CHECK.same("tripTime at the pickup, no step", gear.tripTime(0, pickup), -1);
            CHECK.same("tripTime above the pickup, no step", gear.tripTime(0, pickup + 1), 10 * pickup + 2);
        }
    }

    /** "the trip time of a relay is 1 if it has an instant step that is not greater than the current". */
    private static void stepNotGreaterThanTheCurrent() {
        Switchgear gear = oneLine();
        gear.setRelay(0, 100, 10, 150);
        CHECK.same("tripTime below the step", gear.tripTime(0, 149), 10000 / 49 + 2);
        CHECK.same("tripTime at the step", gear.tripTime(0, 150), 1);
        CHECK.same("tripTime above the step", gear.tripTime(0, 151), 1);
        CHECK.same("tripTime of the greatest current", gear.tripTime(0, 99999), 1);
    }

    /** "or 0 for none": a step of 0 is none, though 0 is not greater than any current. */
    private static void noStep() {
        Switchgear gear = oneLine();
        gear.setRelay(0, 100, 10, 150);
        gear.setRelay(0, 100, 10, 0);
        CHECK.same("tripTime at the step of before", gear.tripTime(0, 150), 202);
        CHECK.same("tripTime of the greatest current", gear.tripTime(0, 99999), 2);
    }

    /** "divided by the difference of the current and the pickup and rounded down, plus 2". */
    private static void roundedDown() {
        Switchgear gear = oneLine();
        gear.setRelay(0, 10, 1, 0);
        CHECK.same("100 / 3", gear.tripTime(0, 13), 35);
        CHECK.same("100 / 51", gear.tripTime(0, 61), 3);
        CHECK.same("100 / 99", gear.tripTime(0, 109), 3);
        CHECK.same("100 / 100", gear.tripTime(0, 110), 3);
        CHECK.same("100 / 101", gear.tripTime(0, 111), 2);
    }

    /** The greatest time, the least time without a step, and the least time of all. */
    private static void leastAndGreatestTimes() {
        Switchgear gear = oneLine();
        gear.setRelay(0, 999, 10, 0);
        CHECK.same("the greatest time", gear.tripTime(0, 1000), 99902);
        CHECK.same("the next one", gear.tripTime(0, 1001), 49952);
        CHECK.same("the time at the greatest current", gear.tripTime(0, 99999), 3);
        gear.setRelay(0, 1, 1, 0);
        CHECK.same("the least time without a step", gear.tripTime(0, 12), 2);
        gear.setRelay(0, 1, 1, 2);
        CHECK.same("the least time of all", gear.tripTime(0, 2), 1);
    }

    /** The first and the twelfth relay are set apart from all others. */
    private static void eachLineHasItsOwnRelay() {
        Switchgear gear = Net.sourceAndBuses(100, 0);
        for (int line = 0; line < 12; line++) {
            gear.addLine(0, 1, 10, true);
        }
        for (int line = 0; line < 12; line++) {
            CHECK.same("setRelay(" + line + ")", gear.setRelay(line, 100 + line, 10, 200 + line), 10);
        }
        for (int line = 0; line < 12; line++) {
            CHECK.same("tripTime at the pickup of " + line, gear.tripTime(line, 100 + line), -1);
            CHECK.same("tripTime above the pickup of " + line, gear.tripTime(line, 101 + line),
                100 * (100 + line) + 2);
            CHECK.same("tripTime below the step of " + line, gear.tripTime(line, 199 + line),
                100 * (100 + line) / 99 + 2);
            CHECK.same("tripTime at the step of " + line, gear.tripTime(line, 200 + line), 1);
        }
    }

    private static void notSelective(Switchgear gear, int line, String why) {
        CHECK.same("isSelective of " + why, gear.isSelective(line), false);
        CHECK.throwing("margin of " + why, STATE, () -> gear.margin(line));
    }

    /** "false also if it is not a closed line of a live island". */
    private static void selectiveOnlyIfClosedAndLive() {
        Switchgear gear = Net.chain(100, 0, 0);
        notSelective(gear, 0, "an open line at the source");
        notSelective(gear, 1, "an open line in the dark");
        Net.closed(gear, 1);
        notSelective(gear, 1, "a closed line in the dark");
        Net.closed(gear, 0);
        gear.setRelay(0, 100, 1, 0);
        CHECK.same("isSelective(0)", gear.isSelective(0), true);
        notSelective(gear, 1, "a line whose relay has a pickup of 999");
        gear.setRelay(1, 100, 1, 0);
        CHECK.same("isSelective(1)", gear.isSelective(1), true);
        CHECK.same("trips() after it", gear.trips(), 0);
        gear.fault(1);
        notSelective(gear, 1, "a line that has been opened");
    }

    /** "is protected selectively if it is switched by a breaker". */
    private static void selectiveOnlyByABreaker() {
        Switchgear gear = Net.sourceAndBuses(100, 0, 0);
        gear.addLine(0, 1, 10, false);
        gear.addLine(1, 2, 10, true);
        Net.closed(gear, 0, 1);
        notSelective(gear, 0, "a disconnector");
        CHECK.same("wouldTrip(0)", gear.wouldTrip(0), -2);
        CHECK.same("isSelective behind a disconnector", gear.isSelective(1), true);
        CHECK.throwing("margin behind a disconnector", UNSUPPORTED, () -> gear.margin(1));
    }

    /** "and a fault on it would let its own relay trip": by one unit of time, in both directions. */
    private static void selectiveOnlyByItsOwnRelay() {
        Switchgear gear = Net.closed(Net.chain(20, 0, 0), 0, 1);
        gear.setRelay(0, 50, 1, 0);
        gear.setRelay(1, 50, 1, 0);
        CHECK.same("isSelective(1) at the same time", gear.isSelective(1), true);
        CHECK.same("margin(1) at the same time", gear.margin(1), 0);
        gear.setRelay(0, 53, 1, 0);
        CHECK.same("tripTime(0, 100)", gear.tripTime(0, 100), 13);
        CHECK.same("tripTime(1, 100)", gear.tripTime(1, 100), 12);
        CHECK.same("margin(1), one unit", gear.margin(1), 1);
        gear.setRelay(0, 50, 1, 0);
        gear.setRelay(1, 53, 1, 0);
        notSelective(gear, 1, "a relay that is one unit slower");
        CHECK.same("wouldTrip(1)", gear.wouldTrip(1), 0);
    }

    /** "Throws IllegalStateException if it is not protected selectively", also if no relay trips at all. */
    private static void marginOfNothing() {
        Switchgear gear = Net.closed(Net.chain(10, 0, 0), 0, 1);
        gear.setRelay(0, 100, 1, 0);
        gear.setRelay(1, 50, 1, 0);
        CHECK.same("faultCurrent(0)", gear.faultCurrent(0), 100);
        CHECK.same("faultCurrent(1)", gear.faultCurrent(1), 50);
        notSelective(gear, 0, "a relay at its pickup");
        notSelective(gear, 1, "two relays that do not trip");
        gear.setRelay(0, 49, 1, 0);
        notSelective(gear, 1, "a relay at its pickup behind one that trips");
        gear.setRelay(1, 49, 1, 0);
        CHECK.same("margin(1) above the pickup", gear.margin(1), 0);
    }

    /** "Throws UnsupportedOperationException if no other relay on the path trips." */
    private static void marginWithoutAnotherRelay() {
        Switchgear gear = Net.closed(Net.star(10, 0, 0), 0, 1);
        gear.setRelay(0, 99, 1, 0);
        gear.setRelay(1, 99, 1, 0);
        CHECK.same("isSelective next to the source", gear.isSelective(0), true);
        CHECK.throwing("margin next to the source", UNSUPPORTED, () -> gear.margin(0));
        CHECK.throwing("margin beside it", UNSUPPORTED, () -> gear.margin(1));
    }

    /** "other relays that do not trip do not count." */
    private static void otherRelaysThatDoNotTrip() {
        Switchgear gear = Net.closed(Net.chain(30, 0, 0, 0), 0, 1, 2);
        gear.setRelay(0, 99, 1, 0);
        gear.setRelay(1, 100, 1, 0);
        gear.setRelay(2, 50, 1, 0);
        CHECK.same("faultCurrent(2)", gear.faultCurrent(2), 100);
        CHECK.same("margin(2), the middle one at its pickup", gear.margin(2), 992 - 12);
        gear.setRelay(0, 100, 1, 0);
        CHECK.throwing("margin(2), both at their pickups", UNSUPPORTED, () -> gear.margin(2));
        gear.setRelay(1, 99, 10, 0);
        CHECK.same("margin(2), the middle one above its pickup", gear.margin(2), 9902 - 12);
    }

    /** "the least trip time of the other relays on the path": wherever on the path it is. */
    private static void leastOfTheOthers() {
        Switchgear gear = Net.closed(Net.chain(90, Net.times(9, 0)), Net.upTo(9));
        gear.addLine(0, 9, 999, true);
        CHECK.same("faultCurrent(8)", gear.faultCurrent(8), 100);
        for (int fastest = 0; fastest < 8; fastest++) {
            for (int line = 0; line < 8; line++) {
                gear.setRelay(line, 50, line == fastest ? 4 : 6, 0);
            }
            gear.setRelay(8, 50, 3, 0);
            CHECK.same("margin(8) to " + fastest, gear.margin(8), 42 - 32);
            gear.setRelay(8, 50, 4, 0);
            CHECK.same("margin(8) to the same", gear.margin(8), 0);
            gear.setRelay(8, 50, 5, 0);
            notSelective(gear, 8, "one slower than " + fastest);
        }
        gear.setRelay(7, 50, 10, 100);
        gear.setRelay(8, 50, 10, 100);
        CHECK.same("margin(8) of two steps", gear.margin(8), 0);
    }
}
