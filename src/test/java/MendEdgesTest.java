/** The edges of mending, and of promises 11, 26 and 27. */
public final class MendEdgesTest {
    public static void main(String[] args) {
        openPlacesFrom0To10();
        openPlacesAreCountedAnew();
        noOpenPlacesChangeNothing();
        openIsWhoIsHurtNow();
        whoCameOnTheDayToldIsNotHurt();
        whoIsOnTheCardDoesNotCome();
        whoIsStruckDoesNotComeEither();
        oneComesToOnePlace();
        theGreaterSumByOne();
        aWorthOf1IsMoreThanNobody();
        ofEqualSumsTheLowerNumber();
        nobodyIsBehindAllNumbers();
        allCanComeOrNobody();
        clausesOfTodayBar();
        protectionsOfTodayBar();
        clausesBetweenBothWhoCome();
        barsOfEachMatchAndPlace();
        theSamePlaceWins();
        whatStaysAndWhatIsStruck();
        allMatchesStruckAreNoCard();
        tomorrowsCardIsNotMended();
        theLastDayIsMended();
        aMendedCardIsPlayed();
        Check.finish();
    }

    /** A card of today with pairs, one behind the other from number 0 on, and the first ones hurt. */
    private static KayfabeRing cardOf(int wrestlers, int pairs, int hurt) {
        KayfabeRing ring = Stage.ofSize(wrestlers, 0);
        for (int i = 0; i < pairs; i++) {
            Stage.book(ring, 2 * i, 2 * i + 1);
        }
        for (int i = 0; i < hurt; i++) {
            ring.hurt(i, 1);
        }
        return ring;
    }

    private static void openPlacesFrom0To10() {
        Mendings.due("0 open", cardOf(10, 2, 0), 0, 0, 0, 1, 2, 3);
        Mendings.due("1 open", cardOf(10, 2, 1), 50, 0, 4, 1, 2, 3);
        Mendings.due("2 open", cardOf(10, 2, 2), 100, 0, 4, 5, 2, 3);
        Mendings.due("3 open", cardOf(10, 2, 3), 150, 0, 4, 5, 6, 3);
        Mendings.due("4 open", cardOf(10, 2, 4), 200, 0, 4, 5, 6, 7);
        Mendings.due("4 open, nobody to come", cardOf(4, 2, 4), 0, 2);
        Mendings.due("4 open, of all ten", cardOf(10, 5, 4), 0, 2, 4, 5, 6, 7, 8, 9);
        for (int hurt = 5; hurt <= 10; hurt++) {
            KayfabeRing ring = cardOf(10, 5, hurt);
            Mendings.throwAll(hurt + " open", ring);
            Check.due("11 nothing changed", 5, ring.ofCard(0, 1));
        }
        Mendings.throwAll("no card", cardOf(10, 0, 0));
        Mendings.throwAll("no card, all hurt", cardOf(10, 0, 10));
        Mendings.throwAll("5 open, one could come", cardOf(7, 3, 5));
    }

    private static void openPlacesAreCountedAnew() {
        KayfabeRing ring = cardOf(10, 3, 5);
        Mendings.throwAll("5 open", ring);
        ring.strike(0, 0);
        Mendings.due("3 open", ring, 150, 0, 6, 7, 8, 5);
        ring.hurt(6, 1);
        Mendings.due("who came is hurt", ring, 50, 0, 9, 7, 8, 5);
        ring.hurt(9, 1);
        Mendings.due("nobody is left", ring, 0, 1, 8, 5);

        KayfabeRing longer = Stage.ofSize(10, 0);
        longer.book(1, 0, 0, 1, true, 1, -1);
        longer.book(1, 0, 2, 3, true, 1, -1);
        longer.book(1, 0, 4, 5, true, 1, -1);
        for (int i = 0; i < 5; i++) {
            longer.hurt(i, i == 4 ? 1 : 2);
        }
        longer.pass();
        Mendings.due("the fifth one is not hurt now", longer, 200, 0, 6, 7, 8, 9, 4, 5);
    }

    private static void noOpenPlacesChangeNothing() {
        KayfabeRing ring = Stage.ofSize(4, 1);
        ring.book(0, 1, 0, 1, true, 7, 0);
        ring.clause(1, 0, 999);
        ring.protect(1, 999);
        ring.hurt(2, 200);
        ring.shoot(0);
        Mendings.due("barred, but not open", ring, 0, 0, 0, 1);
        int[] want = {0, 1, 0, 7, 0, 1};
        for (int what = 0; what < want.length; what++) {
            Check.due("11 nothing changes", want[what], ring.ofMatch(0, 0, what));
        }
        Check.due("19 its town", 1, ring.ofCard(0, 0));
    }

    private static void openIsWhoIsHurtNow() {
        for (int days = 1; days <= 3; days++) {
            KayfabeRing ring = Stage.ofSize(3, 0);
            ring.book(2, 0, 0, 1, true, 1, -1);
            ring.hurt(0, days);
            Stage.passTo(ring, 2);
            if (days == 3) {
                Mendings.due("hurt till today", ring, 50, 0, 2, 1);
            } else {
                Mendings.due("hurt till the day ahead", ring, 0, 0, 0, 1);
            }
        }
    }

    private static void whoCameOnTheDayToldIsNotHurt() {
        for (int days = 1; days <= 3; days++) {
            KayfabeRing ring = Stage.ofSkills(1, 2, 9, 3);
            ring.hurt(2, days);
            Stage.passTo(ring, 2);
            Stage.book(ring, 0, 1);
            ring.hurt(0, 1);
            Mendings.due("hurt ahead of " + days, ring, days == 3 ? 3 : 9, 0, days == 3 ? 3 : 2, 1);
        }
        KayfabeRing good = Stage.ofSkills(1, 2, 9, 3);
        good.head(2);
        good.head(2);
        good.head(2);
        Stage.book(good, 0, 1);
        good.hurt(0, 1);
        Mendings.due("hurt for good", good, 3, 0, 3, 1);
    }

    private static void whoIsOnTheCardDoesNotCome() {
        KayfabeRing ring = Stage.ofSkills(1, 2, 99, 98, 3);
        Stage.book(ring, 0, 1);
        Stage.book(ring, 2, 3);
        ring.hurt(0, 1);
        Mendings.due("not of another match", ring, 3, 0, 4, 1, 2, 3);
        KayfabeRing alone = Stage.ofSkills(1, 2, 99, 98);
        Stage.book(alone, 0, 1);
        Stage.book(alone, 2, 3);
        alone.hurt(1, 1);
        Mendings.due("nor if nobody else is there", alone, 0, 1, 2, 3);
    }

    private static void whoIsStruckDoesNotComeEither() {
        KayfabeRing ring = Stage.ofSkills(1, 99, 2, 98, 3);
        Stage.book(ring, 0, 1);
        Stage.book(ring, 2, 3);
        ring.hurt(0, 1);
        ring.hurt(2, 1);
        ring.clause(3, 4, 0);
        Mendings.due("the one who is left of a struck match", ring, 3, 1, 4, 1);
        ring.hurt(4, 1);
        Mendings.due("but behind that, not on the card any more", ring, 98, 0, 3, 1);
    }

    private static void oneComesToOnePlace() {
        Mendings.due("one for a match of two", cardOf(3, 1, 2), 0, 1);
        Mendings.due("two for a match of two", cardOf(4, 1, 2), 100, 0, 2, 3);
        Mendings.due("one for both matches", cardOf(5, 2, 4), 0, 2);
        Mendings.due("two for both matches", cardOf(6, 2, 4), 100, 1, 4, 5);
        Mendings.due("three for both matches", cardOf(7, 2, 4), 100, 1, 4, 5);
        Mendings.due("three for three places", cardOf(7, 2, 3), 150, 0, 4, 5, 6, 3);
        Mendings.due("two for three places", cardOf(6, 2, 3), 100, 1, 4, 5);
    }

    private static void theGreaterSumByOne() {
        for (int skill = 49; skill <= 51; skill++) {
            KayfabeRing ring = Stage.ofSkills(1, 1, 50, skill);
            Stage.book(ring, 0, 1);
            ring.hurt(0, 1);
            boolean isMore = skill == 51;
            Mendings.due("50 or " + skill, ring, isMore ? 51 : 50, 0, isMore ? 3 : 2, 1);
        }
        KayfabeRing tired = Stage.ofSkills(1, 1, 50, 49, 1);
        Stage.play(tired, 0, 2, 4, 29, -1);
        tired.pass();
        tired.book(1, 1, 0, 1, true, 1, -1);
        tired.hurt(1, 1);
        Mendings.due("strain of 19 is one less: alike", tired, 49, 0, 0, 2);
        KayfabeRing two = Stage.ofSkills(1, 1, 30, 41, 20, 20, 1, 1);
        two.book(0, 0, 0, 1, true, 1, -1);
        two.book(0, 0, 6, 7, true, 1, -1);
        two.hurt(0, 1);
        two.hurt(6, 1);
        two.hurt(7, 1);
        two.hurt(2, 1);
        two.clause(1, 3, 0);
        Mendings.due("the sum of all, not the greatest of one", two, 81, 0, 4, 1, 3, 5);
    }

    private static void aWorthOf1IsMoreThanNobody() {
        KayfabeRing ring = Stage.ofSkills(0, 0, 0);
        Stage.book(ring, 0, 1);
        ring.hurt(0, 1);
        Mendings.due("the least worth", ring, 1, 0, 2, 1);
    }

    private static void ofEqualSumsTheLowerNumber() {
        KayfabeRing first = Stage.ofSize(10, 0);
        Stage.book(first, 8, 9);
        first.hurt(9, 1);
        Mendings.due("the lowest of all", first, 50, 0, 8, 0);
        KayfabeRing last = Stage.ofSize(10, 0);
        Stage.book(last, 0, 1);
        last.hurt(0, 1);
        for (int i = 2; i < 9; i++) {
            last.hurt(i, 1);
        }
        Mendings.due("the last one alone", last, 50, 0, 9, 1);

        KayfabeRing order = Stage.ofSize(8, 0);
        Stage.book(order, 7, 6);
        Stage.book(order, 5, 4);
        for (int i = 4; i < 8; i++) {
            order.hurt(i, 1);
        }
        Mendings.due("the first place ahead of the second", order, 200, 0, 0, 1, 2, 3);

        KayfabeRing barred = Stage.ofSize(8, 0);
        Stage.book(barred, 7, 6);
        Stage.book(barred, 5, 4);
        barred.hurt(7, 1);
        barred.hurt(4, 1);
        barred.clause(6, 0, 0);
        Mendings.due("where the lowest is barred, the next one", barred, 100, 0, 1, 6, 5, 0);
    }

    private static void nobodyIsBehindAllNumbers() {
        KayfabeRing last = Stage.ofSize(10, 0);
        for (int i = 0; i < 8; i += 2) {
            Stage.book(last, i, i + 1);
        }
        last.hurt(0, 1);
        last.hurt(3, 1);
        last.hurt(8, 1);
        Mendings.due("the last number ahead of nobody", last, 50, 1, 9, 1, 4, 5, 6, 7);

        KayfabeRing second = Stage.ofSize(6, 0);
        Stage.book(second, 0, 1);
        Stage.book(second, 2, 3);
        second.hurt(0, 1);
        second.hurt(3, 1);
        second.hurt(4, 1);
        second.clause(1, 5, 0);
        Mendings.due("nobody where that one is barred", second, 50, 1, 2, 5);

        KayfabeRing pair = Stage.ofSize(8, 0);
        Stage.book(pair, 0, 1);
        Stage.book(pair, 2, 3);
        Stage.book(pair, 4, 5);
        pair.hurt(0, 1);
        pair.hurt(2, 1);
        pair.hurt(3, 1);
        pair.hurt(4, 1);
        Mendings.due("two in the first and the third, nobody in the second", pair, 100, 1, 6, 1, 7, 5);
    }

    /** To a match of two open places both come, or it is struck. */
    private static void allCanComeOrNobody() {
        KayfabeRing ring = Stage.ofSkills(1, 1, 1, 1, 99, 98);
        Stage.book(ring, 0, 1);
        Stage.book(ring, 2, 3);
        ring.hurt(0, 1);
        ring.hurt(1, 1);
        ring.hurt(2, 1);
        ring.hurt(5, 1);
        Mendings.due("one of two would be too few", ring, 99, 1, 4, 3);
        KayfabeRing both = Stage.ofSkills(1, 1, 1, 1, 99, 98);
        Stage.book(both, 0, 1);
        Stage.book(both, 2, 3);
        both.hurt(0, 1);
        both.hurt(1, 1);
        both.hurt(2, 1);
        Mendings.due("both for two ahead of one for one", both, 197, 1, 4, 5);
    }

    /** On day 5, a clause up to so many days from it. */
    private static void clausesOfTodayBar() {
        for (int until = 4; until <= 6; until++) {
            boolean isBarred = until >= 5;
            KayfabeRing comes = fiveDaysOn();
            comes.hurt(1, 1);
            comes.clause(2, 0, until);
            Mendings.due("who comes is to lose, up to " + until, comes, isBarred ? 30 : 99, 0, 0, isBarred ? 3 : 2);
            KayfabeRing stays = fiveDaysOn();
            stays.hurt(0, 1);
            stays.clause(1, 2, until);
            Mendings.due("who stays is to lose, up to " + until, stays, isBarred ? 30 : 99, 0, isBarred ? 3 : 2, 1);
            KayfabeRing wins = fiveDaysOn();
            wins.hurt(0, 1);
            wins.clause(2, 1, until);
            wins.clause(1, 0, until);
            Mendings.due("who comes is to win", wins, 99, 0, 2, 1);
        }
    }

    /** On day 5, a protection ahead of so many days. */
    private static void protectionsOfTodayBar() {
        for (int day = 4; day <= 7; day++) {
            boolean isBarred = day >= 6;
            KayfabeRing comes = fiveDaysOn();
            comes.hurt(1, 1);
            comes.protect(2, day);
            Mendings.due("who comes is to lose, ahead of " + day, comes, isBarred ? 30 : 99, 0, 0, isBarred ? 3 : 2);
            KayfabeRing stays = fiveDaysOn();
            stays.hurt(0, 1);
            stays.protect(1, day);
            if (isBarred) {
                Mendings.due("who stays is to lose, ahead of " + day, stays, 0, 1);
            } else {
                Mendings.due("who stays is to lose, ahead of " + day, stays, 99, 0, 2, 1);
            }
            KayfabeRing wins = fiveDaysOn();
            wins.hurt(0, 1);
            wins.protect(2, day);
            wins.protect(0, day);
            Mendings.due("who comes is to win", wins, 99, 0, 2, 1);
        }
    }

    /** Number 0 is to win against 1; 2 has the most worth, then 3. */
    private static KayfabeRing fiveDaysOn() {
        KayfabeRing ring = Stage.passTo(Stage.ofSkills(10, 20, 99, 30), 5);
        Stage.book(ring, 0, 1);
        return ring;
    }

    private static void clausesBetweenBothWhoCome() {
        KayfabeRing one = fiveDaysOn();
        one.hurt(0, 1);
        one.hurt(1, 1);
        one.clause(3, 2, 5);
        Mendings.due("the one can't lose to the other", one, 129, 0, 3, 2);
        KayfabeRing both = fiveDaysOn();
        both.hurt(0, 1);
        both.hurt(1, 1);
        both.clause(3, 2, 5);
        both.clause(2, 3, 5);
        Mendings.due("none of both can lose", both, 0, 1);
        KayfabeRing over = fiveDaysOn();
        over.hurt(0, 1);
        over.hurt(1, 1);
        over.clause(3, 2, 4);
        over.protect(3, 5);
        Mendings.due("both bars are over", over, 129, 0, 2, 3);
    }

    /** Of four matches each one has an open place; numbers 8 and 9 can come, 9 with the greater worth. */
    private static void barsOfEachMatchAndPlace() {
        for (int i = 0; i < 16; i++) {
            int match = i / 4;
            int place = i / 2 % 2;
            boolean isToWin = i % 2 == 1;
            KayfabeRing clause = fourMatches(match, place, isToWin);
            int stays = 2 * match + 1 - place;
            clause.clause(isToWin ? stays : 9, isToWin ? 9 : stays, 0);
            comes("a clause against the one of both", clause, 8, match, place);
            KayfabeRing other = fourMatches(match, place, isToWin);
            other.clause(isToWin ? 9 : stays, isToWin ? stays : 9, 0);
            other.clause(8, 9, 0);
            comes("a clause the other way round", other, 9, match, place);
            KayfabeRing loser = fourMatches(match, place, isToWin);
            loser.protect(9, 1);
            comes("who comes is protected", loser, isToWin ? 9 : 8, match, place);
            KayfabeRing none = fourMatches(match, place, isToWin);
            none.protect(stays, 1);
            if (isToWin) {
                Check.due("27 who stays is protected", 0, none.mendingAnew());
                Check.due("11 who stays is protected", 1, none.mend());
            } else {
                comes("who stays is protected, but to win", none, 9, match, place);
            }
        }
    }

    private static KayfabeRing fourMatches(int match, int place, boolean isToWin) {
        KayfabeRing ring = Stage.ofSkills(1, 1, 1, 1, 1, 1, 1, 1, 50, 60);
        for (int i = 0; i < 4; i++) {
            ring.book(0, 0, 2 * i, 2 * i + 1, (place == 0) == isToWin, 1, -1);
        }
        ring.hurt(2 * match + place, 1);
        return ring;
    }

    private static void comes(String what, KayfabeRing ring, int who, int match, int place) {
        Check.due("26 " + what, who == 9 ? 60 : 50, ring.mending());
        Check.due("27 " + what, who == 9 ? 60 : 50, ring.mendingAnew());
        Check.due("11 " + what, 0, ring.mend());
        for (int i = 0; i < 8; i++) {
            int want = i == 2 * match + place ? who : i;
            Check.due("11 who is there: " + what, want, ring.ofMatch(0, i / 2, i % 2));
        }
    }

    private static void theSamePlaceWins() {
        for (int isFirst = 0; isFirst <= 1; isFirst++) {
            for (int hurt = 0; hurt <= 1; hurt++) {
                KayfabeRing ring = Stage.ofSize(3, 0);
                ring.book(0, 0, 0, 1, isFirst == 1, 1, -1);
                ring.hurt(hurt, 1);
                ring.mend();
                int winner = ring.ofMatch(0, 0, isFirst == 1 ? 0 : 1);
                Check.due("11 the same place is to win", winner, ring.ofMatch(0, 0, 2));
                Check.due("11 who came", 2, ring.ofMatch(0, 0, hurt));
                Check.due("11 who stayed", 1 - hurt, ring.ofMatch(0, 0, 1 - hurt));
            }
        }
    }

    private static void whatStaysAndWhatIsStruck() {
        for (int struck = 0; struck < 4; struck++) {
            KayfabeRing ring = Stage.ofSize(8, 4);
            for (int i = 0; i < 4; i++) {
                ring.book(0, 2, 2 * i, 2 * i + 1, true, 10 + i, i);
                if (i % 2 == 1) {
                    ring.shoot(i);
                }
            }
            ring.hurt(2 * struck + struck % 2, 1);
            Check.due("11 one is struck", 1, ring.mend());
            Check.due("19 three are left", 3, ring.ofCard(0, 1));
            for (int match = 0; match < 3; match++) {
                int was = match < struck ? match : match + 1;
                int[] want = {2 * was, 2 * was + 1, 2 * was, 10 + was, was, was % 2};
                for (int what = 0; what < want.length; what++) {
                    Check.due("11 comes down whole", want[what], ring.ofMatch(0, match, what));
                }
            }
            Check.isThrown("11 no fourth", Check.INDEX, () -> ring.ofMatch(0, 3, 0));
        }
        KayfabeRing ring = Stage.ofSize(3, 4);
        ring.book(0, 2, 0, 1, true, 60, 3);
        ring.shoot(0);
        ring.hurt(0, 1);
        ring.mend();
        int[] want = {2, 1, 2, 60, 3, 1};
        for (int what = 0; what < want.length; what++) {
            Check.due("11 stays with who comes", want[what], ring.ofMatch(0, 0, what));
        }
    }

    private static void allMatchesStruckAreNoCard() {
        KayfabeRing ring = cardOf(4, 2, 4);
        Check.due("26 nobody would come", 0, ring.mending());
        Check.due("11 all struck", 2, ring.mend());
        Check.due("19 no town", Stage.NONE, ring.ofCard(0, 0));
        Check.due("19 nothing on it", 0, ring.ofCard(0, 1) + ring.ofCard(0, 2) + ring.ofCard(0, 3));
        Mendings.throwAll("no card then", ring);
        Check.isThrown("12 no card then", Check.STATE, ring::play);
        Check.isThrown("7 no match then", Check.INDEX, () -> ring.strike(0, 0));
        Check.isThrown("8 no match then", Check.INDEX, () -> ring.shoot(0) ? 1 : 0);
    }

    private static void tomorrowsCardIsNotMended() {
        KayfabeRing ring = Stage.ofSize(5, 0);
        ring.book(1, 0, 0, 1, true, 1, -1);
        ring.hurt(0, 9);
        Mendings.throwAll("none today", ring);
        ring.book(0, 0, 1, 2, true, 1, -1);
        Mendings.due("none open today", ring, 0, 0, 1, 2);
        Check.due("11 tomorrow's stays", 0, ring.ofMatch(1, 0, 0));
        ring.pass();
        Mendings.due("the next day, those of the day ahead too", ring, 50, 0, 2, 1);
    }

    private static void theLastDayIsMended() {
        KayfabeRing ring = Stage.passTo(Stage.ofSize(4, 0), 999);
        Stage.book(ring, 0, 1);
        ring.clause(1, 2, 999);
        ring.hurt(0, 200);
        Mendings.due("a clause up to the last day", ring, 50, 0, 3, 1);
        ring.hurt(1, 1);
        ring.clause(2, 3, 998);
        ring.protect(2, 999);
        Mendings.due("bars that are over on the last day", ring, 50, 0, 3, 2);
    }

    private static void aMendedCardIsPlayed() {
        KayfabeRing ring = cardOf(10, 2, 4);
        Check.isThrown("12 they are hurt", Check.STATE, ring::play);
        ring.mending();
        ring.mendingAnew();
        Check.isThrown("26 changes nothing", Check.STATE, ring::play);
        ring.mend();
        Check.due("12 with those who came", 200, ring.play());
        Mendings.throwAll("played", ring);
        Check.due("23 who came won", 1, ring.beat(4, 5));
        Check.due("23 and won", 1, ring.beat(6, 7));
        Check.due("23 who was booked did not", 0, ring.beat(0, 1) + ring.beat(2, 3));
        Check.due("24 who came won", 1, ring.beatAnew(4, 5));
        Check.due("16 who is hurt has no strain", 0, ring.ofWrestler(0, 1));
    }
}
