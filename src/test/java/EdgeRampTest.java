/** The edges that the document names under RAMP and in promises 1 and 11 to 15, a test for each sentence. */
public final class EdgeRampTest {
    public static void main(String[] args) {
        accelerationIsFrom1To999();
        speedLimitIsFrom1To999();
        newObjectHasAcceleration100AndSpeedLimit200();
        rootIsTheGreatestWhoseSquareIsAtMost();
        rootIsOfTheFlooredQuotient();
        rootOfTheFirstAndTheLastIndex();
        cruiseIntervalIsRoundedUp();
        topIndexIsFrom0();
        topIndexIsAtMostTheCruiseInterval();
        topIndexIs998AtMost();
        topIndexIs999IfThereIsNone();
        topIndexIsTheSmallest();
        intervalIsWhicheverIsGreater();
        intervalIsGreaterAgainBehindTheTopIndex();
        indexOfAnIntervalIsFrom0To999();
        indexOfAnApproximateIntervalIsFrom0To999();
        firstApproximateIntervalIsFloored();
        remainderIs0AtFirstAndCarried();
        topIndexFollowsFromThePresentValues();
        Check.end();
    }

    /** "The planner has an acceleration a, 1 to 999" */
    private static void accelerationIsFrom1To999() {
        Calls.play("setAcceleration(0)=BAD_VALUE setAcceleration(1)=100 interval(0)=14142 setAcceleration(0)=BAD_VALUE",
            "setAcceleration(1000)=BAD_VALUE setAcceleration(999)=1 interval(0)=447 setAcceleration(1000)=BAD_VALUE",
            "setAcceleration(-1)=BAD_VALUE setAcceleration(MIN)=BAD_VALUE setAcceleration(MAX)=BAD_VALUE",
            "setAcceleration(2)=999 setAcceleration(998)=2 setAcceleration(998)=998");
    }

    /** "and a speed limit v, 1 to 999" */
    private static void speedLimitIsFrom1To999() {
        Calls.play("setSpeedLimit(0)=BAD_VALUE setSpeedLimit(1)=200 interval(0)=10000 setSpeedLimit(0)=BAD_VALUE",
            "setSpeedLimit(1000)=BAD_VALUE setSpeedLimit(999)=1 interval(999)=23 setSpeedLimit(1000)=BAD_VALUE",
            "setSpeedLimit(-1)=BAD_VALUE setSpeedLimit(MIN)=BAD_VALUE setSpeedLimit(MAX)=BAD_VALUE",
            "setSpeedLimit(2)=999 setSpeedLimit(998)=2 setSpeedLimit(998)=998");
    }

    /** "A new object has the acceleration 100 and the speed limit 200." */
    private static void newObjectHasAcceleration100AndSpeedLimit200() {
        Calls.play("setAcceleration(5)=100 setSpeedLimit(6)=200");
        Calls.play("interval(0)=1414 interval(195)=50 interval(999)=50 topIndex()=195");
    }

    /** "T(n) is the greatest integer whose square is at most": quotients that are squares, or less than one by 1. */
    private static void rootIsTheGreatestWhoseSquareIsAtMost() {
        // 100000000 * n: the squares of 10000, 20000 (n = 4) and 30000 (n = 9).
        Calls.play("setAcceleration(2) setSpeedLimit(999) interval(0)=10000 interval(3)=2680 interval(4)=2360",
            "interval(8)=1716 interval(9)=1622");
        Calls.play("setAcceleration(200) setSpeedLimit(999) interval(0)=1000");
        // floor(200000000 / 407) is 701 * 701 - 1, floor(200000000 / 921) is 466 * 466 - 1.
        Calls.play("setSpeedLimit(999) setAcceleration(407) interval(0)=700 setAcceleration(921) interval(0)=465");
        // floor(200000000 * 9 / 899) is 1415 * 1415 - 1, and T(8) = 1334, T(10) = 1491.
        Calls.play("setSpeedLimit(999) setAcceleration(899) interval(8)=80 interval(9)=77");
        // 200000000 * 879 / 5 is 187510 * 187510 - 100.
        Calls.play("setSpeedLimit(999) setAcceleration(5) interval(878)=106 interval(879)=107");
    }

    /** "at most floor(200000000 * n / a)": quotients with a fraction, whose whole part is a square. */
    private static void rootIsOfTheFlooredQuotient() {
        // 635 * 635 is floor(403225.8..), 508 * 508 is floor(258064.5..).
        Calls.play("setSpeedLimit(999) setAcceleration(496) interval(0)=635 setAcceleration(775) interval(0)=508");
    }

    /** "For an integer n of 0 or greater": T(0) is 0, and the last ramp interval needs T(1000). */
    private static void rootOfTheFirstAndTheLastIndex() {
        // T(999) = 446989 and T(1000) = 447213; T(998) = 446766
        Calls.play("setAcceleration(1) setSpeedLimit(999) interval(0)=14142 interval(998)=223 interval(999)=224");
        Calls.play("setAcceleration(999) setSpeedLimit(999) interval(0)=447 interval(999)=11");
    }

    /** "The cruise interval is 10000 / v, rounded up." */
    private static void cruiseIntervalIsRoundedUp() {
        int[][] due = {{1, 10000}, {2, 5000}, {3, 3334}, {4, 2500}, {10, 1000}, {17, 589}, {499, 21},
            {500, 20}, {501, 20}, {909, 12}, {910, 11}, {998, 11}, {999, 11}};
        for (int[] pair : due) {
            // With the acceleration 999 the ramp interval of the index 999 is 7.
            Calls.play("setAcceleration(999) setSpeedLimit(" + pair[0] + ") interval(999)=" + pair[1]);
        }
    }

    /** "The top index is the smallest n from 0": R(0) is at most the cruise interval. */
    private static void topIndexIsFrom0() {
        Calls.play("setAcceleration(8) setSpeedLimit(2) interval(0)=5000 interval(1)=5000 topIndex()=0",
            "setSpeedLimit(1) topIndex()=0 interval(0)=10000 setSpeedLimit(3) topIndex()=1 interval(0)=5000");
        Calls.play("setAcceleration(1) setSpeedLimit(1) topIndex()=1 interval(0)=14142 interval(1)=10000");
    }

    /** "such that R(n) is at most the cruise interval": equal is enough, greater by 1 is too much. */
    private static void topIndexIsAtMostTheCruiseInterval() {
        // R(995) = 36 and R(996) = 35, which is the cruise interval.
        Calls.play("setAcceleration(39) setSpeedLimit(286) topIndex()=996 interval(995)=36 interval(996)=35");
        Calls.play("setAcceleration(2) setSpeedLimit(1) topIndex()=0 interval(0)=10000");
    }

    /** "from 0 to 998" */
    private static void topIndexIs998AtMost() {
        Calls.play("setAcceleration(1) setSpeedLimit(45) topIndex()=998 interval(997)=224 interval(998)=223");
        Calls.play("setAcceleration(26) setSpeedLimit(233) topIndex()=998 interval(997)=44 interval(998)=43");
    }

    /** "it is 999 if there is no such n", also if R(999) is at most the cruise interval */
    private static void topIndexIs999IfThereIsNone() {
        Calls.play("setAcceleration(1) setSpeedLimit(46) topIndex()=999 interval(998)=223 interval(999)=224");
        Calls.play("setAcceleration(1) setSpeedLimit(999) topIndex()=999");
        Calls.play("setAcceleration(14) setSpeedLimit(170) topIndex()=999 interval(998)=60 interval(999)=59");
        Calls.play("setAcceleration(301) setSpeedLimit(834) topIndex()=999 interval(998)=13 interval(999)=12");
    }

    /** "the smallest n": behind it a ramp interval may be greater than the cruise interval once more */
    private static void topIndexIsTheSmallest() {
        Calls.play("setAcceleration(1) setSpeedLimit(22) topIndex()=240 interval(239)=457 interval(240)=455");
        Calls.play("setAcceleration(157) setSpeedLimit(589) topIndex()=996");
    }

    /** "The interval of the index n is R(n) or the cruise interval, whichever is greater." */
    private static void intervalIsWhicheverIsGreater() {
        Calls.play("setSpeedLimit(17) interval(1)=589 setSpeedLimit(18) interval(1)=586 interval(2)=556");
        Calls.play("setSpeedLimit(7) interval(0)=1429 setSpeedLimit(8) interval(0)=1414 interval(1)=1250");
    }

    /** The same, of indices that are greater than the top index. */
    private static void intervalIsGreaterAgainBehindTheTopIndex() {
        Calls.play("setAcceleration(1) setSpeedLimit(22) interval(240)=455 interval(241)=456 interval(242)=455");
        Calls.play("setAcceleration(1) setSpeedLimit(45) interval(998)=223 interval(999)=224");
        Calls.play("setAcceleration(157) setSpeedLimit(589) interval(996)=17 interval(997)=18 interval(998)=18");
    }

    /** interval: "index, 0 to 999 ... BAD_VALUE if n is out of range" */
    private static void indexOfAnIntervalIsFrom0To999() {
        Calls.play("interval(-1)=BAD_VALUE interval(0)=1414 interval(999)=50 interval(1000)=BAD_VALUE",
            "interval(1001)=BAD_VALUE interval(MIN)=BAD_VALUE interval(MAX)=BAD_VALUE");
    }

    /** approximateInterval: "index, 0 to 999 ... BAD_VALUE if n is out of range" */
    private static void indexOfAnApproximateIntervalIsFrom0To999() {
        Calls.play("approximateInterval(-1)=BAD_VALUE approximateInterval(0)=955 approximateInterval(999)=23",
            "approximateInterval(1000)=BAD_VALUE approximateInterval(1001)=BAD_VALUE",
            "approximateInterval(MIN)=BAD_VALUE approximateInterval(MAX)=BAD_VALUE");
    }

    /** "A(0) is floor(676 * T(1) / 1000)": without a rest, and with one near 1000 */
    private static void firstApproximateIntervalIsFloored() {
        Calls.play("setAcceleration(200) approximateInterval(0)=676 setAcceleration(800) approximateInterval(0)=338",
            "setAcceleration(1) approximateInterval(0)=9559 setAcceleration(999) approximateInterval(0)=302",
            "setAcceleration(100) approximateInterval(0)=955 setAcceleration(407) approximateInterval(0)=473");
    }

    /** "the remainder r is 0 at first ... r becomes the remainder of x divided by 4 * n + 1" */
    private static void remainderIs0AtFirstAndCarried() {
        // x = 1352 = 5 * 270 + 2; x = 2 * 406 + 2 = 9 * 90 + 4; x = 2 * 316 + 4 = 13 * 48 + 12
        Calls.play("setAcceleration(200) approximateInterval(1)=406 approximateInterval(2)=316",
            "approximateInterval(3)=268 approximateInterval(4)=236");
        // Without the remainder A(4) would be 334, and A(13) would be 197.
        Calls.play("approximateInterval(1)=573 approximateInterval(4)=333 approximateInterval(13)=193");
        Calls.play("setAcceleration(1) approximateInterval(998)=225 approximateInterval(999)=225");
    }

    /** "The top index follows from the present acceleration and speed limit." */
    private static void topIndexFollowsFromThePresentValues() {
        Calls.play("topIndex()=195 setSpeedLimit(20)=200 topIndex()=2 setAcceleration(1)=100 topIndex()=200",
            "undo()=1 topIndex()=2 undo()=0 topIndex()=195");
    }
}
