/** The boundary cases of when TRAINS arrive and leave, sentence by sentence: promises 13, 14, 15 and 21. */
public final class TimeBoundaryTest {
    private static final Check CHECK = new Check("TimeBoundaryTest");
    private static final int NONE = Throughcoach.NONE;

    private static void arrives(Throughcoach x, String what, int want, int train, int stop) {
        CHECK.due("13: " + what, want, () -> x.arrives(train, stop));
    }

    private static void leaves(Throughcoach x, String what, int want, int train, int stop) {
        CHECK.due("14: " + what, want, () -> x.leaves(train, stop));
        CHECK.due("15: " + what, want, () -> x.leavesAnew(train, stop));
    }

    /** A TRAIN from 0 to 1 that leaves at 1439, and is there at the minute. */
    private static Throughcoach late(int minute) {
        Throughcoach x = Scene.stations(3);
        x.train(0, 1439, 1000);
        x.stop(0, 1, 300, 10, 0);
        x.stop(0, 2, 10, 10, 0);
        x.late(0, 1, minute - 1739);
        return x;
    }

    // "Minutes are counted from 0 to 1999": "NONE if it does not in the night."
    private static void lastMinute() {
        for (int minute = 1997; minute < 2003; minute++) {
            int want = minute < 2000 ? minute : NONE;
            Throughcoach x = late(minute);
            arrives(x, "at " + minute, want, 0, 1);
            leaves(x, "at " + minute, want, 0, 1);
        }
        for (int run = 258; run < 263; run++) {
            Throughcoach x = Scene.stations(3);
            x.train(0, 1439, 1000);
            x.stop(0, 1, 300, 10, 0);
            x.stop(0, 2, run, 10, 0);
            arrives(x, "by the plan, with a run of " + run, run < 261 ? 1739 + run : NONE, 0, 2);
        }
        Throughcoach x = late(2000);
        arrives(x, "not behind where it does not arrive", NONE, 0, 2);
    }

    // the same for a TRAIN that stays
    private static void staysIntoTheLastMinute() {
        for (int stay = 58; stay < 61; stay++) {
            Throughcoach x = Scene.stations(3);
            x.train(0, 1439, 1000);
            x.stop(0, 1, 300, 10, stay);
            x.stop(0, 2, 10, 10, 0);
            x.late(0, 1, 201);
            arrives(x, "ahead of a stay", 1940, 0, 1);
            leaves(x, "behind a stay of " + stay, stay < 60 ? 1940 + stay : NONE, 0, 1);
        }
    }

    // the same for one that waits: its patience ends in the last minute, or behind it
    private static void patienceIntoTheLastMinute() {
        for (int patience = 178; patience < 181; patience++) {
            Throughcoach x = Scene.stations(4);
            x.train(0, 1439, 1000);
            x.stop(0, 1, 300, 10, 60);
            x.stop(0, 2, 19, 10, 2);
            x.stop(0, 3, 1, 10, 0);
            x.patience(0, patience);
            x.train(3, 1439, 1000);
            x.stop(1, 2, 300, 10, 0);
            x.late(1, 1, 300);
            Scene.coach(x, 3, 1, 2);
            x.part(0, 0, 3);
            leaves(x, "planned at 1820, patience of " + patience, patience < 180 ? 1820 + patience : NONE, 0, 2);
            arrives(x, "planned at 1820, patience of " + patience, patience < 179 ? 1821 + patience : NONE, 0, 3);
        }
    }

    // "its planned departure": behind the last minute by the plan alone
    private static void plannedBehindTheNight() {
        for (int run = 199; run < 203; run++) {
            Throughcoach x = Scene.stations(4);
            x.train(0, 1439, 1000);
            x.stop(0, 1, 300, 10, 0);
            x.stop(0, 2, run, 10, 60);
            x.stop(0, 3, 1, 10, 0);
            arrives(x, "ahead of the end", 1739 + run, 0, 2);
            leaves(x, "by the plan at " + (1799 + run), run < 201 ? 1799 + run : NONE, 0, 2);
        }
    }

    // "0 for the STOP 0", whenever it leaves
    private static void arrivesAtTheStopZero() {
        for (int departure = 0; departure < 1440; departure += 1439) {
            Throughcoach x = Scene.stations(2);
            Scene.train(x, departure, 1, 0);
            arrives(x, "the STOP 0", 0, 0, 0);
            leaves(x, "the first and the last departure", departure, 0, 0);
            arrives(x, "from there", departure + 10, 0, 1);
        }
    }

    // "or STOP of it": one that only another TRAIN has
    private static void stopOfAnotherTrain() {
        Throughcoach x = Scene.stations(3);
        Scene.train(x, 100, 0, 1, 2);
        Scene.train(x, 100, 0, 1);
        Scene.train(x, 100, 0);
        for (int i = 0; i < 3; i++) {
            int train = i;
            int stop = 3 - i;
            CHECK.due("14: the last STOP of the TRAIN " + i, NONE, () -> x.leaves(train, stop - 1));
            CHECK.index("13: of the TRAIN " + i, () -> x.arrives(train, stop));
            CHECK.index("14: of the TRAIN " + i, () -> x.leaves(train, stop));
            CHECK.index("15: of the TRAIN " + i, () -> x.leavesAnew(train, stop));
            CHECK.index("16: of the TRAIN " + i, () -> x.behind(train, stop, 0));
            CHECK.index("17: of the TRAIN " + i, () -> x.sheet(train, stop));
        }
    }

    // "at a STOP that is not the last one": a TRAIN never leaves the last one
    private static void neverLeavesTheLastStop() {
        Throughcoach x = Scene.stations(6);
        Scene.train(x, 0, 0);
        leaves(x, "the STOP 0 is the last one", NONE, 0, 0);
        Scene.train(x, 0, 0, 1, 2, 3, 4, 5);
        for (int stop = 0; stop < 6; stop++) {
            leaves(x, "one of six", stop < 5 ? 10 * stop : NONE, 1, stop);
            arrives(x, "one of six", 10 * stop, 1, stop);
        }
        x.patience(0, 180);
        leaves(x, "nor out of patience", NONE, 0, 0);
    }

    // "(at the STOP 0 no stay is asked)", "have been there for the stay or longer"
    private static void stays() {
        for (int stay = 0; stay <= 60; stay += 30) {
            Throughcoach x = Scene.stations(3);
            x.train(0, 0, 1000);
            x.stop(0, 1, 20, 10, stay);
            x.stop(0, 2, 20, 10, 0);
            leaves(x, "the STOP 0 in the first minute", 0, 0, 0);
            leaves(x, "a stay of " + stay, 20 + stay, 0, 1);
            x.late(0, 1, 7);
            leaves(x, "a stay of " + stay + ", late", 27 + stay, 0, 1);
            x.late(0, 1, 300);
            leaves(x, "a stay of " + stay + ", very late", 320 + stay, 0, 1);
            x.patience(0, 180);
            leaves(x, "a stay of " + stay + ", in patience", 320 + stay, 0, 1);
        }
    }

    // "the planned departure of which is this minute or one ahead of it": it makes up no minutes of a run
    private static void neverAheadOfThePlan() {
        Throughcoach x = Scene.stations(4);
        x.train(0, 100, 1000);
        x.stop(0, 1, 10, 10, 20);
        x.stop(0, 2, 10, 10, 20);
        x.stop(0, 3, 10, 10, 20);
        for (int late = 0; late < 3; late++) {
            x.late(0, 1, late);
            leaves(x, "late by " + late, 130 + late, 0, 1);
            arrives(x, "late by " + late, 140 + late, 0, 2);
        }
    }

    // "15 minutes more if the gauges of both STATIONS are not the same"
    private static void gaugesOfBoth() {
        for (int i = 0; i < 4; i++) {
            Throughcoach x = new Throughcoach();
            x.station(0, i / 2);
            x.station(0, i % 2);
            Scene.train(x, 100, 0, 1);
            boolean isLike = i == 0 || i == 3;
            arrives(x, "from the gauge " + i / 2 + " to " + i % 2, isLike ? 110 : 125, 0, 1);
            x.late(0, 1, 4);
            arrives(x, "late from the gauge " + i / 2 + " to " + i % 2, isLike ? 114 : 129, 0, 1);
        }
    }

    /** The TRAIN 1 leaves 1 at 100 for 2; a COACH with the TRAIN 0 comes to 1 at the minute, to go on with it. */
    private static Throughcoach connection(int minute, int patience) {
        Throughcoach x = Scene.stations(3);
        Scene.train(x, minute - 10, 0, 1);
        Scene.train(x, 100, 1, 2);
        Scene.coach(x, 0, 0, 1);
        x.part(0, 1, 2);
        x.patience(1, patience);
        return x;
    }

    // "it is as many minutes as its patience, or more, behind the planned departure"
    private static void patience() {
        for (int patience = 0; patience < 4; patience++) {
            for (int ready = 99; ready < 105; ready++) {
                int want = Math.max(100, Math.min(ready, 100 + patience));
                leaves(connection(ready - 10, patience), "patience " + patience + ", ready " + ready, want, 1, 0);
            }
        }
        leaves(connection(271, 180), "the largest, one ahead", 280, 1, 0);
        leaves(connection(270, 180), "the largest", 280, 1, 0);
        leaves(connection(269, 180), "the largest, ready ahead", 279, 1, 0);
        leaves(connection(300, 179), "nearly the largest", 279, 1, 0);
    }

    // it is behind the planned departure, not behind its arrival, that patience is counted; the stay is kept
    private static void patienceOfALateTrain() {
        for (int late = 18; late < 23; late++) {
            Throughcoach x = Scene.stations(3);
            x.train(0, 100, 1000);
            x.stop(0, 1, 10, 10, 5);
            x.stop(0, 2, 10, 10, 0);
            x.patience(0, 25);
            x.late(0, 1, late);
            Scene.coach(x, 0, 0, 1);
            x.part(0, 0, 2);
            int ready = 110 + late + 10;
            int stayed = 115 + late;
            leaves(x, "late by " + late, Math.max(stayed, Math.min(ready, 140)), 0, 1);
        }
    }

    // "for each PART with this TRAIN from this STATION that is not done": one without such PARTS waits for none
    private static void waitsForNone() {
        Throughcoach x = Scene.stations(3);
        Scene.train(x, 100, 0, 1, 2);
        x.patience(0, 180);
        leaves(x, "there are no COACHES", 100, 0, 0);
        Scene.coach(x, 0);
        leaves(x, "one without PARTS", 100, 0, 0);
        Scene.coach(x, 1, 0, 2);
        leaves(x, "a PART from the next STATION", 100, 0, 0);
        leaves(x, "a PART from there, ready from the first", 110, 0, 1);
        Scene.train(x, 200, 0, 2);
        Scene.coach(x, 0, 1, 2);
        leaves(x, "a PART with another TRAIN", 100, 0, 0);
    }

    // "of all COACHES that were not taken out"
    private static void takenOutOnes() {
        Throughcoach x = connection(300, 180);
        leaves(x, "it waits for the COACH", 280, 1, 0);
        x.takeOut(0);
        leaves(x, "it was taken out", 100, 1, 0);
        Throughcoach y = connection(95, 180);
        y.train(0, 0, 1000);
        y.stop(2, 1, 150, 10, 0);
        Scene.coach(y, 0, 2, 1);
        y.part(1, 1, 2);
        leaves(y, "one of two is not ready", 160, 1, 0);
        y.takeOut(1);
        leaves(y, "that one was taken out", 105, 1, 0);
    }

    // "that is not done": a PART that was done by another TRAIN, or with this one
    private static void doneParts() {
        Throughcoach x = Scene.stations(3);
        Scene.train(x, 10, 0, 1);
        Scene.train(x, 50, 1, 0);
        Scene.train(x, 100, 0, 2);
        x.patience(2, 180);
        Scene.coach(x, 0, 0, 1);
        x.part(0, 1, 0);
        leaves(x, "the PARTS from there are with another TRAIN", 100, 2, 0);
        x.part(0, 2, 2);
        leaves(x, "it came back in time", 100, 2, 0);
        CHECK.due("18: three PARTS are done", 3, () -> x.coachOf(0, 2));
        x.late(1, 1, 41);
        leaves(x, "it came back a minute late", 111, 2, 0);
    }

    // "and is to do just that PART": one that stands there ready, but is to do another PART first
    private static void justThatPart() {
        Throughcoach x = Scene.stations(3);
        Scene.train(x, 100, 0, 1, 2);
        Scene.train(x, 500, 1, 0);
        Scene.coach(x, 0, 0, 1);
        x.part(0, 1, 0);
        x.patience(0, 17);
        leaves(x, "one PART from there", 100, 0, 0);
        x.part(0, 0, 2);
        leaves(x, "two PARTS from there: the later one is not to be done", 117, 0, 0);
        CHECK.due("16: the COACH comes, all the same", "0", () -> Scene.consist(x, 0, 0));
    }

    // "the COACH stands there ready": it is elsewhere, or not ready, or with a TRAIN
    private static void standsThereReady() {
        leaves(connection(89, 9), "ready a minute ahead", 100, 1, 0);
        leaves(connection(90, 9), "ready in the minute", 100, 1, 0);
        leaves(connection(91, 9), "ready a minute later", 101, 1, 0);
        leaves(connection(100, 9), "it arrives in the minute", 109, 1, 0);
        leaves(connection(100, 10), "it arrives in the minute", 110, 1, 0);
        leaves(connection(101, 9), "it arrives later", 109, 1, 0);
    }

    // "By rising TRAINS", in one minute: arrivals go ahead of departures, whatever the numbers
    private static void arrivesAndLeavesInOneMinute() {
        Throughcoach x = Scene.stations(3);
        Scene.train(x, 100, 1, 2);
        Scene.train(x, 90, 0, 1, 2);
        leaves(x, "a TRAIN arrives as another one leaves", 100, 0, 0);
        leaves(x, "it leaves in the minute in which it arrives", 100, 1, 1);
        arrives(x, "in the same minute", 110, 0, 1);
        arrives(x, "in the same minute", 110, 1, 2);
    }

    // "Returns the same, found by going from one minute in which something can happen to the next one."
    private static void foundAnew() {
        for (int first = 0; first < 2; first++) {
            Throughcoach x = connection(95, 20);
            if (first == 0) {
                CHECK.due("15: asked first", 105, () -> x.leavesAnew(1, 0));
            }
            leaves(x, "whatever was asked first", 105, 1, 0);
            x.late(0, 1, 10);
            if (first == 1) {
                CHECK.due("15: asked first", 115, () -> x.leavesAnew(1, 0));
            }
            leaves(x, "whatever was asked first, told more", 115, 1, 0);
        }
        Throughcoach x = Scene.stations(1);
        x.train(0, 1439, 0);
        leaves(x, "nothing happens", NONE, 0, 0);
    }

    // "of 0, 10, 20 and so on to 180", "of several the least one"
    private static void bestPatience() {
        for (int ready = 98; ready < 283; ready++) {
            int behind = Math.max(0, ready - 100);
            int want = behind > 180 ? 0 : (behind + 9) / 10 * 10;
            Throughcoach x = connection(ready - 10, 25);
            CHECK.due("21: ready at " + ready, want, () -> x.best(1));
        }
        Throughcoach x = connection(130, 25);
        CHECK.due("20: none with the patience that it has", 0, x::homes);
        CHECK.due("21: another one is best", 40, () -> x.best(1));
        CHECK.due("21: the patience stays", 25, () -> x.patience(1, 180));
        CHECK.due("21: whatever patience it has", 40, () -> x.best(1));
        CHECK.due("20: with more patience", 1, x::homes);
        leaves(x, "asking for the best changes nothing", 140, 1, 0);
    }

    // no COACHES, all home, and TRAINS for which none waits
    private static void bestOfNothing() {
        Throughcoach x = Scene.stations(2);
        x.train(0, 0, 0);
        CHECK.due("21: the STOP 0 alone", 0, () -> x.best(0));
        x.stop(0, 1, 10, 10, 0);
        CHECK.due("21: no COACHES", 0, () -> x.best(0));
        x.patience(0, 180);
        CHECK.due("21: no COACHES, with patience", 0, () -> x.best(0));
        Throughcoach y = connection(90, 180);
        CHECK.due("21: home without patience", 0, () -> y.best(1));
        CHECK.due("21: of the other TRAIN", 0, () -> y.best(0));
        Throughcoach z = connection(130, 180);
        z.takeOut(0);
        CHECK.due("21: taken out", 0, () -> z.best(1));
    }

    // "most COACHES would be home": waiting for one leaves others behind
    private static void bestForMost() {
        Throughcoach x = connection(130, 0);
        Scene.train(x, 120, 2, 0);
        Scene.coach(x, 1, 1, 2);
        x.part(1, 2, 0);
        CHECK.due("20: the one without patience", 1, x::homes);
        CHECK.due("21: of one and one the least", 0, () -> x.best(1));
        Throughcoach y = connection(130, 0);
        Scene.coach(y, 0, 0, 1);
        y.part(1, 1, 2);
        Scene.train(y, 120, 2, 0);
        Scene.coach(y, 1, 1, 2);
        y.part(2, 2, 0);
        CHECK.due("21: two by waiting", 40, () -> y.best(1));
        y.patience(2, 40);
        CHECK.due("21: all three, as the next one waits too", 40, () -> y.best(1));
        CHECK.due("20: all else being as it is", 1, y::homes);
        y.patience(1, 40);
        CHECK.due("20: all three", 3, y::homes);
    }

    public static void main(String[] args) {
        lastMinute();
        staysIntoTheLastMinute();
        patienceIntoTheLastMinute();
        plannedBehindTheNight();
        arrivesAtTheStopZero();
        stopOfAnotherTrain();
        neverLeavesTheLastStop();
        stays();
        neverAheadOfThePlan();
        gaugesOfBoth();
        patience();
        patienceOfALateTrain();
        waitsForNone();
        takenOutOnes();
        doneParts();
        justThatPart();
        standsThereReady();
        arrivesAndLeavesInOneMinute();
        foundAnew();
        bestPatience();
        bestOfNothing();
        bestForMost();
        CHECK.end();
    }
}
