/** What the tests share: feeding a text, comparing answers, counting what is wrong. */
final class Calls {
    private int asked;
    private int wrong;

    /** Feeds a text in rows of twenty bytes, filled up with blanks, and reads it. */
    static int text(DayProfiles x, String text) {
        feed(x, text);
        return x.text(text.length());
    }

    static void feed(DayProfiles x, String text) {
        for (int p = 0; p < text.length(); p += 20) {
            x.feed(word(text, p), word(text, p + 4), word(text, p + 8), word(text, p + 12), word(text, p + 16));
        }
    }

    private static int word(String text, int place) {
        int number = 0;
        for (int i = 0; i < 4; i++) {
            int sign = place + i < text.length() ? text.charAt(place + i) : ' ';
            number = number << 8 | sign & 255;
        }
        return number;
    }

    void due(String call, long got, long want) {
        asked++;
        if (got != want) {
            wrong++;
            if (wrong <= 40) {
                System.out.println(call + " answered " + got + ", due is " + want);
            }
        }
    }

    /** 0: the call answers; 1: IndexOutOfBoundsException; 2: NoSuchElementException. */
    static int thrownBy(DayProfiles x, int ride, int what) {
        try {
            x.ride(ride, what);
            return 0;
        } catch (IndexOutOfBoundsException e) {
            return 1;
        } catch (java.util.NoSuchElementException e) {
            return 2;
        }
    }

    int wrongOnes() {
        return wrong;
    }

    void end() {
        System.out.println(asked + " answers, " + wrong + " not as due");
        if (wrong != 0 || asked == 0) {
            System.exit(1);
        }
    }
}
