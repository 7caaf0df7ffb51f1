/** The boundary cases of what COACHES do in the night, sentence by sentence: promises 16 to 20. */
public final class CoachBoundaryTest {
    private static final Check CHECK = new Check("CoachBoundaryTest");
    private static final int NONE = Throughcoach.NONE;

    private static void consist(Throughcoach x, String what, String want, int train, int stop) {
        CHECK.due("16: " + what, want, () -> Scene.consist(x, train, stop));
    }

    /** Where it stands, from when on it is ready, PARTS done, home, how often it left, taken out. */
    private static void coachOf(Throughcoach x, String what, String want, int coach) {
        CHECK.due("18: " + what, want, () -> Scene.coachOf(x, coach));
    }

    private static void homes(Throughcoach x, String what, int want) {
        CHECK.due("20: " + what, want, x::homes);
    }

    // "each COACH stands at its STATION, is ready from the minute 0 on"
    private static void readyFromTheFirstMinute() {
        Throughcoach x = Scene.stations(2);
        Scene.train(x, 0, 0, 1);
        Scene.coach(x, 0, 0, 1);
        consist(x, "in the minute 0", "0", 0, 0);
        coachOf(x, "home", "1 20 1 1 1 0", 0);
    }

    // "One without PARTS, or that was taken out, does nothing."
    private static void doesNothing() {
        Throughcoach x = Scene.stations(2);
        Scene.train(x, 100, 0, 1);
        Scene.coach(x, 0);
        Scene.coach(x, 0, 0, 1);
        x.takeOut(1);
        Scene.coach(x, 0);
        x.takeOut(2);
        consist(x, "none", "", 0, 0);
        coachOf(x, "without PARTS", "0 0 0 0 0 0", 0);
        coachOf(x, "taken out", "0 0 0 0 0 1", 1);
        coachOf(x, "taken out without PARTS", "0 0 0 0 0 1", 2);
        homes(x, "none", 0);
    }

    // "each COACH with the TRAIN is set out, if the STOP is the TRAIN's last one, or if its STATION is the one to which
    // the PART leads"
    private static void setOutWhereThePartLeads() {
        Throughcoach x = Scene.stations(4);
        Scene.train(x, 100, 0, 1, 2, 3);
        for (int i = 1; i < 4; i++) {
            Scene.coach(x, 0, 0, i);
        }
        consist(x, "all", "0 1 2", 0, 0);
        consist(x, "without the one for the STOP 1", "1 2", 0, 1);
        consist(x, "without the one for the STOP 2", "2", 0, 2);
        consist(x, "the last STOP is not left", "", 0, 3);
        for (int i = 0; i < 3; i++) {
            coachOf(x, "set out", (i + 1) + " " + (120 + 10 * i) + " 1 1 1 0", i);
        }
    }

    // "One that is set out stands there, and is ready 10 minutes later."
    private static void readyTenMinutesLater() {
        for (int departure = 119; departure < 123; departure++) {
            Throughcoach x = Scene.stations(3);
            Scene.train(x, 100, 0, 1);
            Scene.train(x, departure, 1, 2);
            Scene.coach(x, 0, 0, 1);
            x.part(0, 1, 2);
            boolean isReady = departure >= 120;
            consist(x, "leaves at " + departure, isReady ? "0" : "", 1, 0);
            coachOf(x, "leaves at " + departure, isReady ? "2 " + (departure + 20) + " 2 1 2 0" : "1 120 1 0 1 0", 0);
            homes(x, "leaves at " + departure, isReady ? 1 : 0);
        }
    }

    // "it is to do the next one; without a next one it is home": one, two and three PARTS
    private static void home() {
        for (int parts = 1; parts < 4; parts++) {
            Throughcoach x = Scene.stations(4);
            Scene.coach(x, 0);
            for (int i = 0; i < 3; i++) {
                Scene.train(x, 100 * i, i, i + 1);
                if (i < parts) {
                    x.part(0, i, i + 1);
                }
            }
            coachOf(x, "with " + parts, parts + " " + (100 * parts - 80) + " " + parts + " 1 " + parts + " 0", 0);
            homes(x, "with " + parts, 1);
        }
    }

    // a COACH that is home is not taken any more, one that waits for its next TRAIN neither
    private static void staysHome() {
        Throughcoach x = Scene.stations(3);
        Scene.train(x, 100, 0, 1);
        Scene.train(x, 200, 1, 0);
        Scene.train(x, 300, 0, 1);
        Scene.coach(x, 0, 0, 1);
        consist(x, "home", "", 1, 0);
        x.part(0, 1, 0);
        consist(x, "not home yet", "0", 1, 0);
        consist(x, "home where it was at first", "", 2, 0);
        coachOf(x, "home where it was at first", "0 220 2 1 2 0", 0);
    }

    // "A COACH is allowed if the land of the TRAIN's next STATION is among its lands"
    private static void lands() {
        for (int land = 0; land < 6; land++) {
            for (int i = 0; i < 4; i++) {
                int lands = i == 0 ? 1 << land : i == 1 ? 63 - (1 << land) : i == 2 ? 63 : 0;
                Throughcoach x = new Throughcoach();
                x.station((land + 1) % 6, 0);
                x.station(land, 0);
                Scene.train(x, 100, 0, 1);
                x.coach(0, land, 0, 20, 20, lands, true);
                x.part(0, 0, 1);
                consist(x, "into the land " + land + " with " + lands, i % 2 == 0 ? "0" : "", 0, 0);
                homes(x, "in the land " + land + " with " + lands, i % 2 == 0 ? 1 : 0);
            }
        }
    }

    // the lands count within a land, too, and neither that of the COACH nor that where it stands is asked
    private static void landsAlone() {
        Throughcoach x = new Throughcoach();
        x.station(2, 0);
        x.station(2, 0);
        x.station(3, 0);
        Scene.train(x, 100, 0, 1);
        Scene.train(x, 100, 0, 2);
        x.coach(0, 2, 0, 20, 20, 8, false);
        x.part(0, 0, 1);
        x.coach(0, 2, 0, 20, 20, 8, false);
        x.part(1, 1, 2);
        consist(x, "not within its own land", "", 0, 0);
        consist(x, "from where it is not allowed", "1", 1, 0);
        coachOf(x, "never left", "0 0 0 0 0 0", 0);
    }

    // "and that has the same gauge as this one, or the COACH may slide"
    private static void gauges() {
        for (int i = 0; i < 8; i++) {
            boolean slides = i >= 4;
            Throughcoach x = new Throughcoach();
            x.station(0, i / 2 % 2);
            x.station(0, i % 2);
            Scene.train(x, 100, 0, 1);
            x.coach(0, 0, 0, 20, 20, 1, slides);
            x.part(0, 0, 1);
            boolean isAllowed = slides || i / 2 % 2 == i % 2;
            consist(x, "from " + i / 2 % 2 + " to " + i % 2 + ", slides: " + slides, isAllowed ? "0" : "", 0, 0);
            homes(x, "from " + i / 2 % 2 + " to " + i % 2 + ", slides: " + slides, isAllowed ? 1 : 0);
        }
    }

    // "each COACH with it that is not allowed, from the head to the tail, is set out there, and is ready 10 minutes
    // later"
    private static void setOutWhereNotAllowed() {
        for (int departure = 119; departure < 122; departure++) {
            Throughcoach x = Scene.stations(4);
            x.train(0, 100, 1000);
            x.stop(0, 1, 10, 10, 0);
            x.stop(0, 2, 10, 10, 0);
            x.stop(0, 3, 10, 10, 0);
            for (int i = 0; i < 4; i++) {
                x.coach(0, 0, 0, 20, 20, i % 2 == 0 ? 63 - 4 : 63, true);
                x.part(i, 0, 3);
            }
            Scene.train(x, departure, 1, 3);
            consist(x, "all", "0 1 2 3", 0, 0);
            consist(x, "those that are allowed, in their order", "1 3", 0, 1);
            consist(x, "by another one at " + departure, departure < 120 ? "" : "0 2", 1, 0);
            if (departure < 120) {
                coachOf(x, "left behind", "1 120 0 0 1 0", 2);
            } else {
                coachOf(x, "left with another one", "3 " + (departure + 20) + " 1 1 2 0", 2);
            }
            coachOf(x, "it goes on", "3 140 1 1 1 0", 1);
        }
    }

    // one that is set out as a TRAIN leaves late is ready 10 minutes behind that, not behind the arrival
    private static void readyBehindTheLeave() {
        Throughcoach x = Scene.stations(3);
        x.train(0, 100, 1000);
        x.stop(0, 1, 10, 10, 33);
        x.stop(0, 2, 10, 10, 0);
        x.coach(0, 0, 0, 20, 20, 2, true);
        x.part(0, 0, 2);
        coachOf(x, "set out as it leaves", "1 153 0 0 1 0", 0);
    }

    // "by rising COACHES ... the COACH comes to the tail"
    private static void risingToTheTail() {
        Throughcoach x = Scene.stations(3);
        Scene.train(x, 100, 0, 1, 2);
        for (int i = 0; i < 10; i++) {
            Scene.coach(x, i % 2 == 0 ? 1 : 0, 0, 2);
        }
        consist(x, "those at the STOP 0", "1 3 5 7 9", 0, 0);
        consist(x, "ahead of those that come at the STOP 1", "1 3 5 7 9 0 2 4 6 8", 0, 1);
        CHECK.due("16: the place 9", 8, () -> x.behind(0, 1, 9));
        CHECK.due("16: not so many", NONE, () -> x.behind(0, 0, 5));
        CHECK.due("16: the TRAIN does not leave it", NONE, () -> x.behind(0, 2, 0));
        homes(x, "all ten", 10);
    }

    // "if this TRAIN has a later STOP at the STATION to which that PART leads": for a COACH of another TRAIN
    private static void laterStop() {
        Throughcoach x = Scene.stations(5);
        x.train(1, 0, 0);
        x.stop(0, 2, 10, 10, 0);
        Scene.coach(x, 1, 0, 2);
        Scene.train(x, 90, 2, 1, 3);
        Scene.train(x, 90, 0, 1, 4);
        consist(x, "the STOP there is ahead", "", 1, 1);
        consist(x, "no STOP there", "", 2, 1);
        Scene.train(x, 95, 0, 1, 4, 3, 2);
        consist(x, "the STOP there is later", "0", 3, 1);
        consist(x, "all the way", "0", 3, 3);
        coachOf(x, "home", "2 145 1 1 1 0", 0);
    }

    // "with one that has left this STATION ahead of this (by then, also in this minute)"
    private static void leftAhead() {
        for (int departure = 99; departure < 102; departure++) {
            Throughcoach x = Scene.stations(4);
            Scene.train(x, departure, 1, 0, 2);
            Scene.train(x, 100, 1, 3, 2);
            Scene.train(x, departure, 1, 0, 2);
            x.coach(1, 0, 0, 20, 20, 63 - 8, true);
            x.part(0, 1, 2);
            consist(x, "not allowed with its own one", "", 1, 0);
            consist(x, "a lower one at " + departure, departure <= 100 ? "" : "0", 0, 0);
            consist(x, "a higher one at " + departure, departure == 100 ? "0" : "", 2, 0);
        }
    }

    // its own TRAIN sets it out (it pulls nothing): then it is ready 10 minutes later, even if it was ready ahead
    private static void setOutBySheet() {
        for (int departure = 108; departure < 112; departure++) {
            Throughcoach x = Scene.stations(3);
            x.train(1, 100, 19);
            x.stop(0, 2, 10, 10, 0);
            Scene.train(x, departure, 1, 2);
            Scene.coach(x, 1, 0, 2);
            consist(x, "it is above what the engine pulls", "", 0, 0);
            consist(x, "another one at " + departure, departure < 110 ? "" : "0", 1, 0);
            coachOf(x, "another one at " + departure, departure < 110 ? "1 110 0 0 0 0"
                    : "2 " + (departure + 20) + " 1 1 1 0", 0);
        }
    }

    /** The TRAIN 0 sets a COACH out at the STATION 1 on its way to the STATION 2, as it is not allowed into 4. */
    private static Throughcoach stranded() {
        Throughcoach x = Scene.stations(5);
        Scene.train(x, 50, 0, 1, 4, 2);
        x.coach(0, 0, 0, 20, 20, 63 - 16, true);
        return x;
    }

    // "or has no STOP there": the TRAIN of the PART has no STOP where the COACH is stranded, or one that it left, one
    // that it has still to leave, or its last one
    private static void strandedByAnotherTrain() {
        for (int i = 0; i < 4; i++) {
            Throughcoach x = stranded();
            x.train(0, 10, 0);
            if (i == 0) {
                x.stop(1, 2, 10, 10, 0);
            } else if (i == 1) {
                x.stop(1, 1, 10, 10, 0);
                x.stop(1, 2, 10, 10, 0);
            } else if (i == 2) {
                x.stop(1, 1, 160, 10, 0);
                x.stop(1, 2, 10, 10, 0);
            } else {
                x.stop(1, 2, 10, 10, 0);
                x.stop(1, 1, 10, 10, 0);
            }
            x.part(0, 1, 2);
            Scene.train(x, 100, 1, 2);
            consist(x, "by the first one, case " + i, "0", 0, 0);
            consist(x, "set out ahead of the land, case " + i, "", 0, 1);
            consist(x, "by the next one, case " + i, i < 2 ? "0" : "", 2, 0);
            String[] want = {"2 120 1 1 2 0", "2 120 1 1 2 0", "1 180 0 0 1 0", "1 70 0 0 1 0"};
            coachOf(x, "case " + i, want[i], 0);
        }
    }

    // "the weights of the COACHES, together, are above what the engine pulls"
    private static void whatTheEnginePulls() {
        for (int pulls = 0; pulls < 200; pulls++) {
            if (pulls % 60 < 2 || pulls % 60 == 59) {
                Throughcoach x = Scene.stations(2);
                x.train(0, 100, pulls);
                x.stop(0, 1, 10, 10, 0);
                for (int i = 0; i < 3; i++) {
                    x.coach(0, 0, 0, 60, 80, 63, true);
                    x.part(i, 0, 1);
                }
                String want = pulls < 60 ? "" : pulls < 120 ? "0" : pulls < 180 ? "0 1" : "0 1 2";
                consist(x, "pulls " + pulls, want, 0, 0);
                homes(x, "pulls " + pulls, pulls / 60);
            }
        }
    }

    // the most of all: ten COACHES of 60 tonnes
    private static void theHeaviest() {
        for (int pulls = 599; pulls < 601; pulls++) {
            Throughcoach x = Scene.stations(2);
            x.train(0, 100, pulls);
            x.stop(0, 1, 10, 500, 0);
            for (int i = 0; i < 10; i++) {
                x.coach(0, 0, 0, 60, 80, 63, true);
                x.part(i, 0, 1);
            }
            int count = pulls - 590;
            homes(x, "ten of 60 tonnes", count);
            CHECK.due("19: ten by 500 kilometres", count * 2000, () -> x.owes(0, 1));
            float sheet = 100.0f * ((float) (80 * count + 60) / (float) (60 * count + 80));
            CHECK.due("17: the best brakes", sheet, () -> x.sheet(0, 0));
        }
    }

    // "100 times the brake weights and 60, together, are below 65 times the weights and 80, together"
    private static void brakes() {
        for (int weight = 20; weight < 61; weight++) {
            for (int brake = 0; brake < 81; brake++) {
                Throughcoach x = Scene.stations(2);
                x.train(0, 100, 1000);
                x.stop(0, 1, 10, 10, 0);
                x.coach(0, 0, 0, weight, brake, 63, true);
                x.part(0, 0, 1);
                boolean isEnough = 100 * (brake + 60) >= 65 * (weight + 80);
                String what = weight + " tonnes, " + brake + " of brakes";
                consist(x, what, isEnough ? "0" : "", 0, 0);
                float sheet = isEnough ? 100.0f * ((float) (brake + 60) / (float) (weight + 80)) : 75.0f;
                CHECK.due("17: " + what, sheet, () -> x.sheet(0, 0));
            }
        }
        Throughcoach x = Scene.stations(2);
        x.train(0, 100, 1000);
        x.stop(0, 1, 10, 10, 0);
        x.coach(0, 0, 0, 20, 5, 63, true);
        x.part(0, 0, 1);
        consist(x, "just 65 of 100", "0", 0, 0);
        CHECK.due("17: just 65 of 100", 100.0f * (65.0f / 100.0f), () -> x.sheet(0, 0));
    }

    // "as long as ...": the last one, and then the last one of those that are left
    private static void oneBehindTheOther() {
        Throughcoach x = Scene.stations(2);
        x.train(0, 100, 99);
        x.stop(0, 1, 10, 10, 0);
        x.coach(0, 0, 0, 20, 20, 63, true);
        x.coach(0, 0, 0, 50, 0, 63, true);
        x.coach(0, 0, 0, 30, 80, 63, true);
        for (int i = 0; i < 3; i++) {
            x.part(i, 0, 1);
        }
        consist(x, "without the last one the brakes are too weak", "0", 0, 0);
        coachOf(x, "the last one", "0 110 0 0 0 0", 2);
        coachOf(x, "the one ahead of it", "0 110 0 0 0 0", 1);
        coachOf(x, "the first one", "1 120 1 1 1 0", 0);
        Throughcoach y = Scene.stations(2);
        y.train(0, 100, 40);
        y.stop(0, 1, 10, 10, 0);
        y.coach(0, 0, 0, 60, 80, 63, true);
        y.coach(0, 0, 0, 20, 80, 63, true);
        y.part(0, 0, 1);
        y.part(1, 0, 1);
        consist(y, "the light one is set out, and then the heavy one", "", 0, 0);
        CHECK.due("14: it leaves without COACHES", 100, () -> y.leaves(0, 0));
        CHECK.due("17: it leaves without COACHES", 75.0f, () -> y.sheet(0, 0));
        homes(y, "none", 0);
    }

    // those that stayed with the TRAIN may be set out by the sheet, too: from the tail on
    private static void stayedAndSetOut() {
        Throughcoach x = Scene.stations(4);
        x.train(0, 100, 100);
        for (int i = 1; i < 4; i++) {
            x.stop(0, i, 10, 10, 0);
        }
        x.coach(0, 0, 0, 60, 60, 63, true);
        x.coach(0, 0, 0, 40, 3, 63, true);
        x.coach(1, 0, 0, 20, 20, 63, true);
        x.part(0, 0, 1);
        x.part(1, 0, 3);
        x.part(2, 0, 3);
        consist(x, "good brakes of the first one", "0 1", 0, 0);
        consist(x, "the one that came, and the one that stayed", "", 0, 1);
        coachOf(x, "the one that stayed", "1 120 0 0 1 0", 1);
        coachOf(x, "the one that came", "1 120 0 0 0 0", 2);
    }

    // "0.0f if it does not leave"
    private static void noSheet() {
        Throughcoach x = Scene.stations(3);
        Scene.train(x, 1439, 0, 1, 2);
        CHECK.due("17: it leaves alone", 75.0f, () -> x.sheet(0, 0));
        CHECK.due("17: the last STOP", 0.0f, () -> x.sheet(0, 2));
        Throughcoach y = Scene.stations(3);
        y.train(0, 1439, 0);
        y.stop(0, 1, 300, 1, 0);
        y.stop(0, 2, 1, 1, 0);
        y.late(0, 1, 260);
        CHECK.due("17: it leaves in the last minute", 75.0f, () -> y.sheet(0, 1));
        y.late(0, 1, 261);
        CHECK.due("17: it does not arrive there", 0.0f, () -> y.sheet(0, 1));
        y.late(0, 1, 0);
        y.train(0, 0, 0);
        CHECK.due("17: the STOP 0 alone", 0.0f, () -> y.sheet(1, 0));
    }

    // "the land of that COACH owes 4 times the kilometres to the land of the next STATION, if that is another one"
    private static void owes() {
        Throughcoach x = new Throughcoach();
        x.station(5, 0);
        x.station(0, 0);
        x.station(0, 0);
        x.station(5, 0);
        x.station(3, 0);
        x.train(0, 100, 1000);
        x.stop(0, 1, 10, 1, 0);
        x.stop(0, 2, 10, 500, 0);
        x.stop(0, 3, 10, 30, 0);
        x.stop(0, 4, 10, 7, 0);
        x.coach(0, 5, 0, 20, 20, 63, true);
        x.coach(0, 3, 0, 20, 20, 63, true);
        x.part(0, 0, 4);
        x.part(1, 0, 4);
        CHECK.due("19: 1 and 500 kilometres, within that land too", 2004, () -> x.owes(5, 0));
        CHECK.due("19: 7 kilometres", 28, () -> x.owes(5, 3));
        CHECK.due("19: the other COACH", 2004, () -> x.owes(3, 0));
        CHECK.due("19: 30 kilometres", 120, () -> x.owes(3, 5));
        CHECK.due("19: nothing to itself", 0, () -> x.owes(5, 5));
        CHECK.due("19: nothing to itself, either", 0, () -> x.owes(3, 3));
        CHECK.due("19: not the other way", 0, () -> x.owes(0, 5));
        CHECK.due("19: a land without COACHES", 0, () -> x.owes(0, 3));
        x.coach(0, 5, 0, 20, 20, 63, true);
        x.part(2, 0, 1);
        CHECK.due("19: for each COACH", 2008, () -> x.owes(5, 0));
        x.takeOut(0);
        CHECK.due("19: but not for one that was taken out", 4, () -> x.owes(5, 0));
    }

    // "For each COACH with it": not for those that are set out ahead of that
    private static void owesForThoseThatLeave() {
        Throughcoach x = Scene.stations(3);
        x.train(0, 100, 25);
        x.stop(0, 1, 10, 10, 0);
        x.stop(0, 2, 10, 10, 0);
        x.coach(0, 0, 0, 20, 20, 3, true);
        x.coach(0, 0, 0, 20, 20, 63, true);
        x.part(0, 0, 2);
        x.part(1, 0, 2);
        CHECK.due("19: one of two leaves", 40, () -> x.owes(0, 1));
        CHECK.due("19: none goes on", 0, () -> x.owes(0, 2));
    }

    // "what a land owes another one for the night": as it leaves, so for one that is still under way, too
    private static void owesAtTheEnd() {
        for (int late = 259; late < 263; late++) {
            Throughcoach x = Scene.stations(2);
            x.train(0, 1439, 1000);
            x.stop(0, 1, 300, 10, 0);
            x.late(0, 1, late);
            Scene.coach(x, 0, 0, 1);
            CHECK.due("19: as it leaves", 40, () -> x.owes(0, 1));
            boolean isThere = late < 261;
            coachOf(x, "late by " + late, isThere ? "1 " + (1749 + late) + " 1 1 1 0" : "-1 -1 0 0 1 0", 0);
            homes(x, "late by " + late, isThere ? 1 : 0);
        }
    }

    // "A COACH that is not set out at a STOP stays with the TRAIN": it does not come there again
    private static void leftOnce() {
        Throughcoach x = Scene.stations(6);
        Scene.train(x, 100, 0, 1, 2, 3, 4, 5);
        Scene.coach(x, 0, 0, 5);
        coachOf(x, "it left once", "5 160 1 1 1 0", 0);
        for (int stop = 0; stop < 5; stop++) {
            consist(x, "all the way", "0", 0, stop);
        }
    }

    // a COACH that changes from one PART to the next one with the same TRAIN needs 10 minutes
    private static void twoPartsWithOneTrain() {
        for (int stay = 9; stay < 12; stay++) {
            Throughcoach x = Scene.stations(3);
            x.train(0, 100, 1000);
            x.stop(0, 1, 10, 10, stay);
            x.stop(0, 2, 10, 10, 0);
            Scene.coach(x, 0, 0, 1);
            x.part(0, 0, 2);
            consist(x, "a stay of " + stay, stay < 10 ? "" : "0", 0, 1);
            coachOf(x, "a stay of " + stay, stay < 10 ? "1 120 1 0 1 0" : "2 " + (130 + stay) + " 2 1 2 0", 0);
        }
    }

    // every limit of the document at once
    private static void fullNight() {
        Throughcoach x = Scene.stations(10);
        for (int i = 0; i < 6; i++) {
            Scene.train(x, 100 * i, i % 2 == 0 ? new int[] {0, 1, 2, 3, 4, 5} : new int[] {5, 4, 3, 2, 1, 0});
        }
        for (int i = 0; i < 10; i++) {
            Scene.coach(x, 0);
            for (int part = 0; part < 3; part++) {
                x.part(i, part, part % 2 == 0 ? 5 : 0);
            }
        }
        homes(x, "all ten by three PARTS", 10);
        for (int i = 0; i < 6; i++) {
            int train = i;
            consist(x, "of the TRAIN " + i, i < 3 ? "0 1 2 3 4 5 6 7 8 9" : "", i, 4);
            CHECK.due("21: of the TRAIN " + i, 0, () -> x.best(train));
        }
        for (int i = 0; i < 10; i++) {
            coachOf(x, "home", "5 260 3 1 3 0", i);
        }
        CHECK.due("19: three times there", 1200, () -> x.owes(0, 1));
        CHECK.due("19: twice to the far end", 800, () -> x.owes(0, 5));
        CHECK.due("19: nothing to itself", 0, () -> x.owes(0, 0));
    }

    public static void main(String[] args) {
        readyFromTheFirstMinute();
        doesNothing();
        setOutWhereThePartLeads();
        readyTenMinutesLater();
        home();
        staysHome();
        lands();
        landsAlone();
        gauges();
        setOutWhereNotAllowed();
        readyBehindTheLeave();
        risingToTheTail();
        laterStop();
        leftAhead();
        setOutBySheet();
        strandedByAnotherTrain();
        whatTheEnginePulls();
        theHeaviest();
        brakes();
        oneBehindTheOther();
        stayedAndSetOut();
        noSheet();
        owes();
        owesForThoseThatLeave();
        owesAtTheEnd();
        leftOnce();
        twoPartsWithOneTrain();
        fullNight();
        CHECK.end();
    }
}
