/** What is asked of the night: promises 13 to 21. */
public final class NightTest {
    private static final Check CHECK = new Check("NightTest");
    private static final int NONE = Throughcoach.NONE;

    private static Throughcoach stations(int count) {
        Throughcoach x = new Throughcoach();
        for (int i = 0; i < count; i++) {
            x.station(i % 6, 0);
        }
        return x;
    }

    /** A COACH of the land 0 that is allowed everywhere, at a STATION. */
    private static int coach(Throughcoach x, int station) {
        return x.coach(station, 0, Throughcoach.BEDS, 20, 20, 63, true);
    }

    private static void leaves(Throughcoach x, String what, int want, int train, int stop) {
        CHECK.due("14: " + what, want, () -> x.leaves(train, stop));
        CHECK.due("15: " + what, want, () -> x.leavesAnew(train, stop));
    }

    private static String consist(Throughcoach x, int train, int stop) {
        StringBuilder text = new StringBuilder();
        for (int place = 0; place < 10; place++) {
            text.append(x.behind(train, stop, place)).append(' ');
        }
        return text.toString().replace("-1 ", "").trim();
    }

    private static void wrongArguments() {
        Throughcoach x = stations(2);
        x.train(0, 0, 100);
        x.stop(0, 1, 10, 10, 0);
        coach(x, 0);
        for (int i = 0; i < 4; i++) {
            int train = i == 0 ? -1 : i == 1 ? 1 : 0;
            int stop = i == 2 ? -1 : i == 3 ? 2 : 0;
            String what = " of the TRAIN " + train + " and the STOP " + stop;
            CHECK.index("13:" + what, () -> x.arrives(train, stop));
            CHECK.index("14:" + what, () -> x.leaves(train, stop));
            CHECK.index("15:" + what, () -> x.leavesAnew(train, stop));
            CHECK.index("16:" + what, () -> x.behind(train, stop, 0));
            CHECK.index("16: a wrong place" + what, () -> x.behind(train, stop, 10));
            CHECK.index("17:" + what, () -> x.sheet(train, stop));
        }
        CHECK.argument("16: place below", () -> x.behind(0, 0, -1));
        CHECK.argument("16: place above", () -> x.behind(0, 0, 10));
        CHECK.due("16: the last place", NONE, () -> x.behind(0, 0, 9));
        CHECK.index("18: COACH below", () -> x.coachOf(-1, 0));
        CHECK.index("18: COACH above", () -> x.coachOf(1, 6));
        CHECK.argument("18: what below", () -> x.coachOf(0, -1));
        CHECK.argument("18: what above", () -> x.coachOf(0, 6));
        CHECK.argument("19: land below", () -> x.owes(-1, 0));
        CHECK.argument("19: land above", () -> x.owes(6, 0));
        CHECK.argument("19: other below", () -> x.owes(0, -1));
        CHECK.argument("19: other above", () -> x.owes(0, 6));
        CHECK.index("21: TRAIN below", () -> x.best(-1));
        CHECK.index("21: TRAIN above", () -> x.best(1));
    }

    private static void times() {
        Throughcoach x = stations(4);
        x.station(0, 1);
        x.train(0, 100, 100);
        leaves(x, "a last STOP is never left", NONE, 0, 0);
        x.stop(0, 1, 30, 10, 7);
        x.stop(0, 4, 30, 10, 20);
        x.stop(0, 2, 30, 10, 0);
        CHECK.due("13: the STOP 0", 0, () -> x.arrives(0, 0));
        leaves(x, "the STOP 0", 100, 0, 0);
        CHECK.due("13: behind the run", 130, () -> x.arrives(0, 1));
        leaves(x, "behind the stay", 137, 0, 1);
        CHECK.due("13: 15 more to another gauge", 137 + 45, () -> x.arrives(0, 2));
        leaves(x, "behind the stay, 15 late", 202, 0, 2);
        CHECK.due("13: 15 more from another gauge", 202 + 45, () -> x.arrives(0, 3));
        leaves(x, "the last STOP", NONE, 0, 3);
        CHECK.due("17: the last STOP", 0.0f, () -> x.sheet(0, 3));
        CHECK.due("16: the last STOP", NONE, () -> x.behind(0, 3, 0));
        x.late(0, 1, 50);
        CHECK.due("13: late", 180, () -> x.arrives(0, 1));
        leaves(x, "the stay is kept when late", 187, 0, 1);
    }

    private static void endOfTheNight() {
        Throughcoach x = stations(6);
        x.train(0, 1439, 100);
        x.stop(0, 1, 300, 1, 0);
        x.stop(0, 2, 260, 1, 0);
        x.stop(0, 3, 1, 2, 0);
        coach(x, 0);
        x.part(0, 0, 2);
        CHECK.due("13: in the last minute", 1999, () -> x.arrives(0, 2));
        leaves(x, "in the last minute", 1999, 0, 2);
        CHECK.due("13: behind the night", NONE, () -> x.arrives(0, 3));
        CHECK.due("18: home in the last minute", 1, () -> x.coachOf(0, 3));
        CHECK.due("18: ready behind the night", 2009, () -> x.coachOf(0, 1));
        x.late(0, 2, 1);
        CHECK.due("13: too late", NONE, () -> x.arrives(0, 2));
        leaves(x, "where it does not arrive", NONE, 0, 2);
        CHECK.due("18: it is with the TRAIN", NONE, () -> x.coachOf(0, 0));
        CHECK.due("18: and not ready", NONE, () -> x.coachOf(0, 1));
        CHECK.due("18: and not home", 0, () -> x.coachOf(0, 3));
        CHECK.due("20: nor counted", 0, x::homes);
        CHECK.due("19: but owed as it left", 4, () -> x.owes(0, 1));
        CHECK.due("19: and left", 4, () -> x.owes(0, 2));
    }

    /** The TRAIN 0 from 0 to 1, the TRAIN 1 from 1 to 2, and a COACH that goes by both. */
    private static Throughcoach connection() {
        Throughcoach x = stations(3);
        x.train(0, 100, 100);
        x.stop(0, 1, 50, 10, 0);
        x.train(1, 160, 100);
        x.stop(1, 2, 30, 20, 0);
        coach(x, 0);
        x.part(0, 0, 1);
        x.part(0, 1, 2);
        return x;
    }

    private static void waits() {
        Throughcoach x = connection();
        CHECK.due("18: ready 10 minutes behind the arrival", 2, () -> x.coachOf(0, 2));
        leaves(x, "ready in time", 160, 1, 0);
        x.late(0, 1, 1);
        leaves(x, "without patience", 160, 1, 0);
        CHECK.due("18: stranded", 1, () -> x.coachOf(0, 0));
        CHECK.due("18: ready there", 161, () -> x.coachOf(0, 1));
        CHECK.due("18: one PART is done", 1, () -> x.coachOf(0, 2));
        x.patience(1, 1);
        leaves(x, "patience to the very minute", 161, 1, 0);
        CHECK.due("16: it comes", 0, () -> x.behind(1, 0, 0));
        x.late(0, 1, 20);
        leaves(x, "patience is over", 161, 1, 0);
        x.patience(1, 180);
        leaves(x, "as soon as it is ready", 180, 1, 0);
        CHECK.due("20: home", 1, x::homes);
        CHECK.due("21: the least that is enough", 20, () -> x.best(1));
        CHECK.due("21: changes nothing", 180, () -> x.patience(1, 180));
        CHECK.due("21: of the other TRAIN", 0, () -> x.best(0));
        x.late(0, 1, 21);
        CHECK.due("21: by tens", 30, () -> x.best(1));
        x.late(0, 1, 180);
        CHECK.due("21: up to 180", 180, () -> x.best(1));
        x.late(0, 1, 181);
        CHECK.due("21: none is enough", 0, () -> x.best(1));
        leaves(x, "patience of three hours", 340, 1, 0);
        x.takeOut(0);
        leaves(x, "nobody waits for what was taken out", 160, 1, 0);
    }

    private static void waitsForAllThatAreTold() {
        Throughcoach x = connection();
        x.patience(1, 60);
        coach(x, 1);
        leaves(x, "one without PARTS is not waited for", 160, 1, 0);
        x.part(1, 1, 2);
        leaves(x, "one that stands there from the first", 160, 1, 0);
        x.train(0, 300, 100);
        x.stop(2, 1, 10, 10, 0);
        coach(x, 0);
        x.part(2, 2, 1);
        x.part(2, 1, 2);
        leaves(x, "one that does another PART first", 220, 1, 0);
        CHECK.due("16: by rising numbers", "0 1", () -> consist(x, 1, 0));
        CHECK.due("18: the third one is left behind", 1, () -> x.coachOf(2, 0));
        CHECK.due("18: ready 10 minutes later", 320, () -> x.coachOf(2, 1));
        leaves(x, "waits for who sets it out", 300, 2, 0);
    }

    private static void waitsForPartsFromThereAlone() {
        Throughcoach x = stations(4);
        x.train(0, 10, 100);
        x.stop(0, 1, 10, 10, 0);
        x.stop(0, 2, 10, 10, 0);
        x.patience(0, 100);
        x.train(3, 400, 100);
        x.stop(1, 1, 10, 10, 0);
        coach(x, 3);
        x.part(0, 1, 1);
        x.part(0, 0, 2);
        leaves(x, "not at the STATION ahead", 10, 0, 0);
        leaves(x, "at that STATION", 120, 0, 1);
        coach(x, 0);
        x.part(1, 0, 1);
        x.part(1, 0, 2);
        x.patience(0, 5);
        leaves(x, "one set out from itself is not ready", 25, 0, 1);
        x.patience(0, 180);
        x.takeOut(0);
        leaves(x, "until it is", 30, 0, 1);
        CHECK.due("18: it came there again", 2, () -> x.coachOf(1, 4));
    }

    /** A TRAIN leaves a COACH to another TRAIN that has not left yet, even in the same minute. */
    private static void leftToTheirTrain() {
        Throughcoach x = stations(3);
        x.train(0, 50, 100);
        x.stop(0, 1, 10, 10, 0);
        x.stop(0, 2, 10, 10, 0);
        x.train(0, 50, 100);
        x.stop(1, 2, 10, 10, 0);
        x.train(0, 50, 100);
        x.stop(2, 2, 10, 10, 0);
        coach(x, 0);
        x.part(0, 1, 2);
        CHECK.due("16: not by the one that leaves ahead of its TRAIN", "", () -> consist(x, 0, 0));
        CHECK.due("16: with its TRAIN", "0", () -> consist(x, 1, 0));
        CHECK.due("16: not by the one behind", "", () -> consist(x, 2, 0));
    }

    private static void takenBehindTheirTrain() {
        Throughcoach x = stations(4);
        x.train(0, 50, 0);
        x.stop(0, 1, 10, 10, 0);
        x.train(0, 60, 100);
        x.stop(1, 2, 10, 10, 0);
        x.train(0, 60, 100);
        x.stop(2, 3, 10, 10, 0);
        x.stop(2, 1, 10, 10, 0);
        x.train(0, 60, 100);
        x.stop(3, 1, 10, 10, 0);
        coach(x, 0);
        x.part(0, 0, 1);
        CHECK.due("16: not where it does not go", "", () -> consist(x, 1, 0));
        CHECK.due("16: ready 10 minutes later, by the lowest", "0", () -> consist(x, 2, 0));
        CHECK.due("16: it is gone", "", () -> consist(x, 3, 0));
        CHECK.due("18: home by another one", 1, () -> x.coachOf(0, 3));
        CHECK.due("18: it left once", 1, () -> x.coachOf(0, 4));
        x.patience(0, 180);
        leaves(x, "it stands ready at once", 50, 0, 0);
        x.train(0, 59, 100);
        x.stop(4, 1, 10, 10, 0);
        CHECK.due("16: a minute too early", "", () -> consist(x, 4, 0));
    }

    private static void takenInTheSameMinute() {
        Throughcoach x = stations(5);
        x.train(4, 0, 100);
        x.stop(0, 0, 40, 10, 0);
        x.train(0, 50, 0);
        x.stop(1, 1, 10, 10, 0);
        x.train(0, 50, 100);
        x.stop(2, 1, 10, 10, 0);
        coach(x, 4);
        x.part(0, 0, 0);
        x.part(0, 2, 1);
        coach(x, 0);
        x.part(1, 2, 1);
        CHECK.due("16: one that leaves later in this minute", "", () -> consist(x, 1, 0));
        CHECK.due("16: both with their TRAIN", "0 1", () -> consist(x, 2, 0));
        x.patience(2, 60);
        x.late(0, 1, 5);
        x.train(0, 55, 100);
        x.stop(3, 1, 10, 10, 0);
        CHECK.due("16: ahead of it in this minute, both are taken with it", "0 1", () -> consist(x, 2, 0));
        leaves(x, "it waited", 55, 2, 0);
        x.patience(2, 4);
        CHECK.due("16: the one that was ready", "1", () -> consist(x, 2, 0));
        CHECK.due("16: the other one by the next", "0", () -> consist(x, 3, 0));
    }

    /** One that left in this very minute, by rising TRAINS, has left ahead. */
    private static void leftInTheSameMinute() {
        Throughcoach x = new Throughcoach();
        for (int i = 0; i < 3; i++) {
            x.station(i, i == 1 ? 1 : 0);
        }
        x.train(0, 50, 100);
        x.stop(0, 1, 10, 10, 0);
        x.stop(0, 2, 10, 10, 0);
        x.train(0, 50, 100);
        x.stop(1, 2, 10, 10, 0);
        x.coach(0, 0, 0, 20, 20, 63, false);
        x.part(0, 0, 2);
        CHECK.due("16: not allowed on the other gauge", "", () -> consist(x, 0, 0));
        CHECK.due("16: taken by the next one in the same minute", "0", () -> consist(x, 1, 0));
        leaves(x, "both in one minute", 50, 1, 0);
        CHECK.due("20: home", 1, x::homes);
    }

    /** A COACH set out where its TRAIN has no STOP may come with every TRAIN that goes there. */
    private static void strandedElsewhere() {
        Throughcoach x = stations(4);
        x.train(0, 10, 0);
        x.stop(0, 2, 10, 10, 0);
        x.train(0, 20, 100);
        x.stop(1, 1, 10, 10, 0);
        x.stop(1, 3, 10, 10, 0);
        x.stop(1, 2, 10, 10, 0);
        x.coach(0, 0, 0, 40, 40, 2 + 4, true);
        x.part(0, 0, 2);
        CHECK.due("16: with another one", "0", () -> consist(x, 1, 0));
        CHECK.due("18: set out ahead of a land", 1, () -> x.coachOf(0, 0));
        CHECK.due("18: ready there", 40, () -> x.coachOf(0, 1));
        x.train(1, 40, 100);
        x.stop(2, 3, 20, 10, 0);
        x.train(1, 39, 100);
        x.stop(3, 2, 20, 10, 0);
        x.train(2, 20, 100);
        x.stop(4, 1, 9, 10, 12);
        x.stop(4, 0, 9, 10, 0);
        CHECK.due("16: not where it does not go", "", () -> consist(x, 2, 0));
        CHECK.due("16: nor ahead of being ready", "", () -> consist(x, 3, 0));
        CHECK.due("16: nor back to where that one was ahead", "", () -> consist(x, 4, 1));
        x.train(1, 40, 100);
        x.stop(5, 2, 20, 10, 0);
        CHECK.due("16: by one that goes there", "0", () -> consist(x, 5, 0));
        CHECK.due("18: there", 2, () -> x.coachOf(0, 0));
        CHECK.due("18: home", 1, () -> x.coachOf(0, 3));
        CHECK.due("18: it left twice", 2, () -> x.coachOf(0, 4));
    }

    private static void forbiddenOnTheWay() {
        Throughcoach x = stations(4);
        x.train(0, 10, 200);
        x.stop(0, 1, 10, 100, 0);
        x.stop(0, 2, 10, 100, 0);
        x.stop(0, 3, 10, 100, 0);
        x.coach(0, 3, 0, 20, 20, 2 + 8, false);
        x.coach(0, 3, 0, 20, 20, 2 + 4 + 8, false);
        x.coach(1, 3, 0, 20, 20, 4 + 8, false);
        x.part(0, 0, 3);
        x.part(1, 0, 3);
        x.part(2, 0, 3);
        CHECK.due("16: into the first land", "0 1", () -> consist(x, 0, 0));
        CHECK.due("16: those that stay ahead of those that come", "1 2", () -> consist(x, 0, 1));
        CHECK.due("18: set out where it is not allowed further", 1, () -> x.coachOf(0, 0));
        CHECK.due("18: ready 10 minutes behind the leave", 30, () -> x.coachOf(0, 1));
        CHECK.due("18: no PART is done", 0, () -> x.coachOf(0, 2));
        CHECK.due("19: 4 times the kilometres of two", 800, () -> x.owes(3, 1));
        CHECK.due("19: and of two more", 800, () -> x.owes(3, 2));
        CHECK.due("19: nothing to itself", 0, () -> x.owes(3, 3));
        CHECK.due("19: not the other way", 0, () -> x.owes(1, 3));
        x.train(1, 30, 100);
        x.stop(1, 3, 10, 7, 0);
        CHECK.due("16: taken by one round that land", "0", () -> consist(x, 1, 0));
        CHECK.due("18: it left twice", 2, () -> x.coachOf(0, 4));
        CHECK.due("18: those that stay do not come", 1, () -> x.coachOf(1, 4));
        CHECK.due("20: all", 3, x::homes);
    }

    private static void gauges() {
        for (int slides = 0; slides < 2; slides++) {
            Throughcoach x = new Throughcoach();
            x.station(0, 1);
            x.station(0, 1);
            x.station(0, 0);
            x.train(0, 10, 200);
            x.stop(0, 1, 10, 100, 0);
            x.stop(0, 2, 10, 100, 0);
            x.coach(0, 0, 0, 20, 20, 1, slides == 1);
            x.part(0, 0, 2);
            CHECK.due("18: where it comes", slides + 1, () -> x.coachOf(0, 0));
            CHECK.due("16: on its gauge", 0, () -> x.behind(0, 0, 0));
            CHECK.due("20: home if it slides", slides, x::homes);
            CHECK.due("19: in its own land", 0, () -> x.owes(0, 0));
        }
    }

    private static void pulls() {
        for (int tonnes = 69; tonnes < 72; tonnes++) {
            Throughcoach x = stations(2);
            x.train(0, 10, tonnes);
            x.stop(0, 1, 10, 100, 0);
            for (int i = 0; i < 3; i++) {
                x.coach(0, 0, 0, i == 0 ? 20 : 25, 25, 63, true);
                x.part(i, 0, 1);
            }
            CHECK.due("16: the last one is set out", tonnes < 70 ? "0 1" : "0 1 2", () -> consist(x, 0, 0));
            CHECK.due("18: it did not leave", tonnes < 70 ? 0 : 1, () -> x.coachOf(2, 4));
            CHECK.due("18: ready", tonnes < 70 ? 20 : 30, () -> x.coachOf(2, 1));
            CHECK.due("19: those that leave owe", tonnes < 70 ? 800 : 1200, () -> x.owes(0, 1));
        }
    }

    private static void brakes() {
        for (int brake = 4; brake < 7; brake++) {
            Throughcoach x = stations(2);
            x.train(0, 10, 1000);
            x.stop(0, 1, 10, 100, 0);
            x.coach(0, 0, 0, 20, brake, 63, true);
            x.part(0, 0, 1);
            CHECK.due("16: 65 of 100", brake < 5 ? "" : "0", () -> consist(x, 0, 0));
            float sheet = brake < 5 ? 75.0f : 100.0f * ((float) (brake + 60) / 100.0f);
            CHECK.due("17: the sheet", sheet, () -> x.sheet(0, 0));
        }
    }

    private static void sheets() {
        Throughcoach x = stations(3);
        x.train(0, 10, 1000);
        x.stop(0, 1, 10, 100, 0);
        x.stop(0, 2, 10, 100, 0);
        CHECK.due("17: the engine alone", 75.0f, () -> x.sheet(0, 0));
        x.coach(0, 0, 0, 37, 41, 63, true);
        x.coach(0, 0, 0, 53, 0, 63, true);
        x.coach(0, 0, 0, 33, 80, 63, true);
        x.part(0, 0, 2);
        x.part(1, 0, 2);
        x.part(2, 0, 1);
        CHECK.due("17: with those that leave", 100.0f * (181.0f / 203.0f), () -> x.sheet(0, 0));
        CHECK.due("16: with those that leave", "0 1 2", () -> consist(x, 0, 0));
        CHECK.due("16: without the last two", "0", () -> consist(x, 0, 1));
        CHECK.due("17: without the last two", 100.0f * (101.0f / 117.0f), () -> x.sheet(0, 1));
        CHECK.due("18: set out on the way", 1, () -> x.coachOf(1, 0));
        CHECK.due("18: ready 10 minutes behind the leave", 30, () -> x.coachOf(1, 1));
        CHECK.due("18: home there", 1, () -> x.coachOf(2, 3));
        x.late(0, 1, 300);
        x.train(0, 1439, 1000);
        x.stop(1, 1, 300, 100, 60);
        x.stop(1, 2, 300, 100, 0);
        x.late(1, 1, 300);
        CHECK.due("17: not left in the night", 0.0f, () -> x.sheet(1, 1));
        CHECK.due("17: left empty", 75.0f, () -> x.sheet(1, 0));
    }

    private static void coachesThatDoNothing() {
        Throughcoach x = stations(2);
        x.train(0, 10, 1000);
        x.stop(0, 1, 10, 100, 0);
        coach(x, 0);
        coach(x, 0);
        x.part(1, 0, 1);
        x.takeOut(1);
        for (int i = 0; i < 2; i++) {
            int coach = i;
            CHECK.due("18: it stands where it stood", 0, () -> x.coachOf(coach, 0));
            CHECK.due("18: ready from the first minute", 0, () -> x.coachOf(coach, 1));
            CHECK.due("18: no PARTS done", 0, () -> x.coachOf(coach, 2));
            CHECK.due("18: not home", 0, () -> x.coachOf(coach, 3));
            CHECK.due("18: never left", 0, () -> x.coachOf(coach, 4));
            CHECK.due("18: taken out", coach, () -> x.coachOf(coach, 5));
        }
        CHECK.due("20: none", 0, x::homes);
        CHECK.due("16: none", "", () -> consist(x, 0, 0));
    }

    private static void bestForMost() {
        Throughcoach x = stations(4);
        x.train(0, 100, 1000);
        x.stop(0, 1, 50, 10, 0);
        x.train(3, 100, 1000);
        x.stop(1, 0, 15, 10, 0);
        x.train(1, 165, 1000);
        x.stop(2, 2, 10, 10, 0);
        coach(x, 0);
        x.part(0, 0, 1);
        x.part(0, 2, 2);
        coach(x, 3);
        x.part(1, 1, 0);
        x.part(1, 0, 1);
        CHECK.due("21: one by leaving, one by waiting", 0, () -> x.best(0));
        coach(x, 3);
        x.part(2, 1, 0);
        x.part(2, 0, 1);
        CHECK.due("21: two by waiting for 25 minutes", 30, () -> x.best(0));
        x.late(1, 1, 60);
        CHECK.due("21: two by waiting for 85 minutes", 90, () -> x.best(0));
        x.takeOut(2);
        CHECK.due("21: one each", 0, () -> x.best(0));
        x.late(1, 1, 0);
        x.patience(2, 20);
        CHECK.due("21: both, if the next one waits too", 30, () -> x.best(0));
        CHECK.due("21: as it is", 0, () -> x.patience(0, 0));
        CHECK.due("20: as it is", 1, x::homes);
    }

    public static void main(String[] args) {
        wrongArguments();
        times();
        endOfTheNight();
        waits();
        waitsForAllThatAreTold();
        waitsForPartsFromThereAlone();
        leftToTheirTrain();
        takenBehindTheirTrain();
        takenInTheSameMinute();
        leftInTheSameMinute();
        strandedElsewhere();
        forbiddenOnTheWay();
        gauges();
        pulls();
        brakes();
        sheets();
        coachesThatDoNothing();
        bestForMost();
        CHECK.end();
    }
}
