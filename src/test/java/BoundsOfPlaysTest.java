import java.util.function.Supplier;

/** The sentences of Terms 1 and of promises 1 to 11 that name a bound, each with a test of its own. */
public final class BoundsOfPlaysTest extends Check {
    private static final Supplier<TwoGames> ALL = Check::oneOfAll;

    public static void main(String[] args) {
        newObjectHasNothing();
        restIsOneToThree();
        restOfPursesBelowNought();
        oddsAreNoughtToTwelve();
        threeOddsWhateverMIs();
        eightPlaysAtMost();
        fullWithEveryKind();
        badAheadOfFull();
        badUsesUpNoNumber();
        numbersOfPlaysHaveBounds();
        numbersOfPlaysGrow();
        toldWhat();
        toldLeastAndGreatest();
        markKinds();
        markUnlike();
        markOfEveryFlat();
        markTellsOnePlace();
        oddsPlaces();
        oddsBadAheadOfBeyond();
        changePlaces();
        changeValues();
        changeUnlike();
        changeOrder();
        meanIsCut();
        meanNought();
        end("BoundsOfPlaysTest");
    }

    /** Promise 1: "m 3; no PLAYS, no ROWS." */
    private static void newObjectHasNothing() {
        TwoGames x = new TwoGames();
        int[] counts = {0, 0, 0, 3};
        for (int what = 0; what < 4; what++) {
            due("1 new count(" + what + ")", x.count(what), counts[what]);
        }
        due("1 new told(0, 0)", x.told(0, 0), BAD);
        due("1 new finding()", x.finding(), 0);
        for (int r = 0; r < 4; r++) {
            int row = r;
            dueFound(TwoGames::new, "1 new tear(" + r + ")", NOTHING, y -> y.tear(row));
        }
        due("1 new rest(3)", x.rest(3), 3);
        due("1 new play()", x.play(), 0);
    }

    /** Terms 1: "m (1 .. 3; 3 at first)"; promise 2: "what it was by. BAD." */
    private static void restIsOneToThree() {
        for (int m = 1; m <= 3; m++) {
            dueBounds(oneOfAllBy(m), "2 rest by " + m, 1, 3, (x, v) -> x.rest(v));
            TwoGames x = new TwoGames();
            due("2 rest(" + m + ") at first", x.rest(m), 3);
            due("2 count(3) by " + m, x.count(3), m);
            x.rest(0);
            x.rest(4);
            due("2 rest behind BAD", x.rest(1), m);
        }
    }

    /** Terms 1: "what the purse (a whole number, perhaps below 0) leaves over by m (0 .. m - 1)". */
    private static void restOfPursesBelowNought() {
        int[] odds = {1, 5, 7};
        for (int m = 1; m <= 3; m++) {
            TwoGames x = new TwoGames();
            x.rested(odds[0], odds[1], odds[2]);
            x.row(0, 1);
            x.rest(m);
            for (int purse = -20; purse <= 20; purse++) {
                int rest = ((purse % m) + m) % m;
                String call = "1 rest of " + purse + " by " + m;
                dueTold(x, call, x.after(0, purse, 1, purse + 1), 1, odds[rest], 12);
                if (purse > -20 && purse < 20) {
                    dueTold(x, call + ", ends", x.ends(0, purse - 1, purse, purse + 1), 1, odds[rest], 12);
                }
            }
        }
    }

    /** Terms 1: "to win is a by 12, a 0 .. 12"; promises 4, 5, 6: "BAD". */
    private static void oddsAreNoughtToTwelve() {
        dueBounds(ALL, "4 rested a", 0, 12, (x, v) -> x.rested(v, 1, 1));
        dueBounds(ALL, "4 rested b", 0, 12, (x, v) -> x.rested(1, v, 1));
        dueBounds(ALL, "4 rested c", 0, 12, (x, v) -> x.rested(1, 1, v));
        dueBounds(ALL, "5 echo a", 0, 12, (x, v) -> x.echo(v, 1, 1, 1));
        dueBounds(ALL, "5 echo b", 0, 12, (x, v) -> x.echo(1, v, 1, 1));
        dueBounds(ALL, "5 echo c", 0, 12, (x, v) -> x.echo(1, 1, v, 1));
        dueBounds(ALL, "5 echo d", 0, 12, (x, v) -> x.echo(1, 1, 1, v));
        dueBounds(ALL, "6 flat a", 0, 12, (x, v) -> x.flat(v));
    }

    /** Terms 1: "one for each rest 0, 1, 2 (RESTED; three, whatever m is)". */
    private static void threeOddsWhateverMIs() {
        for (int m = 1; m <= 3; m++) {
            dueBadOutside(oneOfAllBy(m), "4 rested b by " + m, 0, 12, (x, v) -> x.rested(1, v, 1));
            dueBadOutside(oneOfAllBy(m), "4 rested c by " + m, 0, 12, (x, v) -> x.rested(1, 1, v));
            TwoGames x = oneOfAllBy(m).get();
            due("4 rested by " + m, x.rested(3, 8, 2), 4);
            due("7 told(4, 1) by " + m, x.told(4, 1), 3);
            due("7 told(4, 2) by " + m, x.told(4, 2), 2);
            due("9 odds(4, 2) by " + m, x.odds(4, 2), 2);
            due("9 odds(3, 2) by " + m, x.odds(3, 2), 4);
            due("10 change(4, 2, 11) by " + m, x.change(4, 2, 11), 2);
            due("11 mean(4) by " + m, x.mean(4), 7);
        }
    }

    private static TwoGames withPlays(int many) {
        TwoGames x = new TwoGames();
        for (int p = 0; p < many; p++) {
            x.flat(p);
        }
        x.lot(0, 0, 0);
        x.tear(0);
        return x;
    }

    /** Terms 1: "PLAYS 0, 1, .. (8 at most)"; promises 3 to 6: "its number. .. FULL". */
    private static void eightPlaysAtMost() {
        for (int p = 0; p < 8; p++) {
            due("3 play() is " + p, withPlays(p).play(), p);
            due("4 rested() is " + p, withPlays(p).rested(1, 2, 3), p);
            due("5 echo() is " + p, withPlays(p).echo(1, 2, 3, 4), p);
            due("6 flat() is " + p, withPlays(p).flat(5), p);
        }
    }

    private static void fullWithEveryKind() {
        Supplier<TwoGames> full = () -> withPlays(8);
        dueStill(full, "3 ninth play()", FULL, x -> x.play());
        dueStill(full, "4 ninth rested()", FULL, x -> x.rested(0, 12, 3));
        dueStill(full, "5 ninth echo()", FULL, x -> x.echo(0, 12, 3, 4));
        dueStill(full, "6 ninth flat()", FULL, x -> x.flat(12));
        due("3 full count(0)", full.get().count(0), 8);
        due("7 full told(7, 2)", full.get().told(7, 2), 7);
    }

    /** Terms: "Refused is, the first of these that fits, in this order: BAD -1 .., FULL -2". */
    private static void badAheadOfFull() {
        Supplier<TwoGames> full = () -> withPlays(8);
        dueBadOutside(full, "4 full rested a", 0, 12, (x, v) -> x.rested(v, 1, 1));
        dueBadOutside(full, "4 full rested b", 0, 12, (x, v) -> x.rested(1, v, 1));
        dueBadOutside(full, "4 full rested c", 0, 12, (x, v) -> x.rested(1, 1, v));
        dueBadOutside(full, "5 full echo a", 0, 12, (x, v) -> x.echo(v, 1, 1, 1));
        dueBadOutside(full, "5 full echo d", 0, 12, (x, v) -> x.echo(1, 1, 1, v));
        dueBadOutside(full, "6 full flat a", 0, 12, (x, v) -> x.flat(v));
    }

    private static void badUsesUpNoNumber() {
        TwoGames x = withPlays(7);
        x.flat(13);
        x.rested(0, 0, -1);
        x.echo(0, 0, 0, 13);
        due("6 eighth flat() behind BAD", x.flat(2), 7);
        due("6 eighth flat() odds", x.odds(7, 0), 2);
    }

    /** Promises 7 to 11: "BAD", for "a number that is none". */
    private static void numbersOfPlaysHaveBounds() {
        dueBadOutside(ALL, "7 told", 0, 3, (x, v) -> x.told(v, 0));
        dueBadOutside(ALL, "8 mark", 0, 3, (x, v) -> x.mark(v, 1));
        dueBadOutside(ALL, "9 odds", 0, 3, (x, v) -> x.odds(v, 0));
        dueBadOutside(ALL, "10 change", 0, 3, (x, v) -> x.change(v, 0, 1));
        dueBadOutside(ALL, "11 mean", 0, 3, (x, v) -> x.mean(v));
        dueTaken(ALL, "7 told", 0, 3, (x, v) -> x.told(v, 0));
        dueTaken(ALL, "9 odds", 0, 3, (x, v) -> x.odds(v, 0));
        due("8 mark of the last", oneOfAll().mark(3, 1), 4);
        due("10 change of the last", oneOfAll().change(3, 0, 1), 4);
        due("11 mean of the last", oneOfAll().mean(3), 4);
    }

    private static void numbersOfPlaysGrow() {
        for (int many = 0; many <= 8; many++) {
            int next = many;
            dueStill(() -> withPlays(next), "7 told of none, " + many, BAD, x -> x.told(next, 0));
            dueStill(() -> withPlays(next), "9 odds of none, " + many, BAD, x -> x.odds(next, 0));
            if (many > 0) {
                due("9 odds of the last, " + many, withPlays(many).odds(many - 1, 0), many - 1);
            }
        }
    }

    /** Promise 7: "0 its KIND, 1 how many odds it has (0, 3, 4, 1), .. BAD". */
    private static void toldWhat() {
        int[] sizes = {0, 3, 4, 1};
        for (int p = 0; p < 4; p++) {
            int play = p;
            due("7 KIND of " + p, oneOfAll().told(p, 0), p);
            due("7 how many of " + p, oneOfAll().told(p, 1), sizes[p]);
            dueBadOutside(ALL, "7 told of " + p + ", what", 0, 3, (x, v) -> x.told(play, v));
        }
    }

    /** Promise 7: "2 the least of these (NONE), 3 the greatest (NONE)": each place counts. */
    private static void toldLeastAndGreatest() {
        dueStill(ALL, "7 least of none", NONE, x -> x.told(0, 2));
        dueStill(ALL, "7 greatest of none", NONE, x -> x.told(0, 3));
        for (int place = 0; place < 4; place++) {
            TwoGames x = new TwoGames();
            x.echo(6, 6, 6, 6);
            x.rested(6, 6, 6);
            x.flat(6);
            for (int p = 0; p < 3; p++) {
                int many = x.told(p, 1);
                due("7 least of equals, " + p, x.told(p, 2), 6);
                due("7 greatest of equals, " + p, x.told(p, 3), 6);
                boolean there = place < many;
                x.change(p, place, 0);
                due("7 least at " + place + " of " + p, x.told(p, 2), there ? 0 : 6);
                x.change(p, place, 12);
                due("7 greatest at " + place + " of " + p, x.told(p, 3), there ? 12 : 6);
            }
        }
    }

    /** Promise 8: "BAD: also KIND 0". */
    private static void markKinds() {
        for (int p = 0; p < 4; p++) {
            int play = p;
            dueBadOutside(ALL, "8 mark of " + p + ", kind", 1, 3, (x, v) -> x.mark(play, v));
        }
        dueStill(ALL, "8 mark of no play as of no kind", BAD, x -> x.mark(4, 0));
        dueTaken(ALL, "8 mark of FLAT, kind", 1, 1, (x, v) -> x.mark(3, v));
        dueStill(ALL, "8 mark of FLAT as FLAT", -2, x -> x.mark(3, 3));
    }

    /** Promise 8: "What a PLAY that IS of a KIND tells: a RESTED one (FLAT, too) .. UNLIKE". */
    private static void markUnlike() {
        boolean[][] is = {{false, false, false}, {true, false, false}, {false, true, false}, {true, false, true}};
        int[][] tells = {{0, 0, 0}, {9, 0, 0}, {0, 8, 0}, {4, 0, -2}};
        for (int p = 0; p < 4; p++) {
            for (int kind = 1; kind <= 3; kind++) {
                int play = p, asked = kind;
                String call = "8 mark(" + p + ", " + kind + ")";
                if (is[p][kind - 1]) {
                    dueStill(ALL, call, tells[p][kind - 1], x -> x.mark(play, asked));
                } else {
                    dueFound(ALL, call, UNLIKE, x -> x.mark(play, asked));
                }
            }
        }
    }

    /** Promise 8: "a FLAT one how much a is above 6": below 6 it looks like a refusal, but is none. */
    private static void markOfEveryFlat() {
        for (int a = 0; a <= 12; a++) {
            int odds = a;
            Supplier<TwoGames> flat = () -> {
                TwoGames x = oneOfAll();
                x.flat(odds);
                return x;
            };
            dueStill(flat, "8 mark of flat " + a, a - 6, x -> x.mark(4, 3));
            dueStill(flat, "8 mark of flat " + a + " as RESTED", a, x -> x.mark(4, 1));
        }
    }

    /** Promise 8: "a RESTED one .. a at rest 0, an ECHO a behind won won". */
    private static void markTellsOnePlace() {
        for (int place = 0; place < 4; place++) {
            TwoGames x = new TwoGames();
            x.rested(5, 5, 5);
            x.echo(5, 5, 5, 5);
            x.change(0, place, 12);
            x.change(1, place, 12);
            due("8 mark RESTED with 12 at " + place, x.mark(0, 1), place == 0 ? 12 : 5);
            due("8 mark ECHO with 12 at " + place, x.mark(1, 2), place == 3 ? 12 : 5);
        }
    }

    /** Promise 9: "BEYOND: no such odds (KIND 0: rest 0 alone; RESTED, FLAT: 0 to 2)", "ECHO: 0 to 3". */
    private static void oddsPlaces() {
        int[] last = {0, 2, 3, 2};
        int[][] want = {{12}, {9, 4, 6}, {5, 11, 2, 8}, {4, 4, 4}};
        for (int m = 1; m <= 3; m++) {
            for (int p = 0; p < 4; p++) {
                int play = p;
                dueBeyondOutside(oneOfAllBy(m), "9 odds of " + p, 0, last[p], (x, v) -> x.odds(play, v));
                for (int i = 0; i <= last[p]; i++) {
                    int place = i;
                    dueStill(oneOfAllBy(m), "9 odds of " + p + " at " + i, want[p][i], x -> x.odds(play, place));
                }
            }
        }
    }

    private static void oddsBadAheadOfBeyond() {
        dueStill(ALL, "9 odds of no play at no place", BAD, x -> x.odds(4, -1));
        dueStill(ALL, "9 odds of play -1 at no place", BAD, x -> x.odds(-1, 4));
    }

    /** Promise 10: "BEYOND: no such odds (FLAT: 0 alone)". */
    private static void changePlaces() {
        int[] last = {-1, 2, 3, 0};
        int[][] was = {{}, {9, 4, 6}, {5, 11, 2, 8}, {4}};
        for (int m = 1; m <= 3; m++) {
            for (int p = 1; p < 4; p++) {
                int play = p;
                dueBeyondOutside(oneOfAllBy(m), "10 change of " + p, 0, last[p], (x, v) -> x.change(play, v, 1));
                for (int i = 0; i <= last[p]; i++) {
                    TwoGames x = oneOfAllBy(m).get();
                    due("10 change of " + p + " at " + i, x.change(p, i, 1), was[p][i]);
                    due("10 changed " + p + " at " + i, x.odds(p, i), 1);
                    for (int k = 0; k <= last[p]; k++) {
                        due("10 change at " + i + " leaves " + k, x.odds(p, k), k == i ? 1 : was[p][k]);
                    }
                }
            }
        }
        TwoGames x = oneOfAll();
        x.change(3, 0, 12);
        for (int i = 0; i < 3; i++) {
            due("10 changed FLAT at rest " + i, x.odds(3, i), 12);
        }
    }

    /** Terms 1: "a 0 .. 12"; promise 10: "BAD". */
    private static void changeValues() {
        for (int p = 0; p < 4; p++) {
            int play = p;
            dueBadOutside(ALL, "10 change of " + p + ", v", 0, 12, (x, v) -> x.change(play, 0, v));
            if (p > 0) {
                dueTaken(ALL, "10 change of " + p + ", v", 0, 12, (x, v) -> x.change(play, 0, v));
            }
        }
    }

    /** Promise 10: "UNLIKE: KIND 0". */
    private static void changeUnlike() {
        dueFound(ALL, "10 change of KIND 0", UNLIKE, x -> x.change(0, 0, 12));
        due("10 KIND 0 wins still", oneOfAll().odds(0, 0), 12);
    }

    /** Promise 10: "BAD; UNLIKE: KIND 0; BEYOND", one behind the other. */
    private static void changeOrder() {
        for (int i : new int[] {-1, 1, 4, MIN, MAX}) {
            dueFound(ALL, "10 UNLIKE ahead of BEYOND, " + i, UNLIKE, x -> x.change(0, i, 0));
        }
        dueStill(ALL, "10 BAD v ahead of UNLIKE", BAD, x -> x.change(0, 0, 13));
        dueStill(ALL, "10 BAD v ahead of BEYOND", BAD, x -> x.change(1, 3, -1));
        dueStill(ALL, "10 BAD play ahead of BEYOND", BAD, x -> x.change(4, 9, 0));
        dueStill(ALL, "10 BAD play -1", BAD, x -> x.change(-1, 0, 0));
    }

    /** Promise 11: "The mean of a PLAY's odds, cut." */
    private static void meanIsCut() {
        for (int c = 0; c <= 12; c++) {
            TwoGames x = new TwoGames();
            x.rested(0, 1, c);
            x.echo(12, 11, 12, c);
            x.flat(c);
            due("11 mean of 0 1 " + c, x.mean(0), (1 + c) / 3);
            due("11 mean of 12 11 12 " + c, x.mean(1), (35 + c) / 4);
            due("11 mean of flat " + c, x.mean(2), c);
        }
    }

    /** Promise 11: "NOUGHT: it has none." */
    private static void meanNought() {
        Supplier<TwoGames> otherFinding = () -> {
            TwoGames x = oneOfAll();
            x.tear(2);
            return x;
        };
        dueFound(otherFinding, "11 mean of KIND 0", NOUGHT, x -> x.mean(0));
        dueStill(otherFinding, "11 mean of no play", BAD, x -> x.mean(4));
        TwoGames x = new TwoGames();
        x.rested(0, 0, 0);
        due("11 mean of noughts is one", x.mean(0), 0);
        due("11 mean of noughts, finding", x.finding(), 0);
    }
}
