import java.util.Random;

/** Random descriptions: most without an error, with cells that get full, empty and hot. */
final class Texts {
    private final Random random;

    Texts(Random random) {
        this.random = random;
    }

    int in(int low, int high) {
        return low + random.nextInt(high - low + 1);
    }

    /** Small and great numbers alike. */
    private int spread(int low, int high) {
        switch (random.nextInt(6)) {
            case 0:
                return low;
            case 1:
                return high;
            case 2:
                return in(low, high);
            default:
                double share = Math.pow(random.nextDouble(), 3);
                return low + (int) ((high - low) * share);
        }
    }

    String description() {
        StringBuilder all = new StringBuilder();
        int curves = in(1, 3);
        for (int k = 0; k < curves; k++) {
            all.append("curve ").append("abc".charAt(k));
            boolean usual = random.nextInt(3) > 0;
            int voltage = usual ? in(2600, 3300) : in(0, 3200);
            int points = random.nextInt(5) == 0 ? in(2, 11) : in(2, 4);
            for (int n = 0; n < points; n++) {
                all.append(' ').append(voltage);
                voltage = Math.min(5000, voltage + in(0, usual ? 2000 / points : 1200));
            }
            all.append(';');
        }
        settings(all);
        int cells = in(1, random.nextInt(3) == 0 ? 6 : 2);
        for (int k = 0; k < cells; k++) {
            all.append("cell ").append("abc".charAt(in(0, curves - 1))).append(' ')
                    .append(random.nextBoolean() ? in(100, 3000) : spread(100, 100000)).append(' ')
                    .append(spread(1, 500)).append(' ').append(spread(0, 500)).append(' ')
                    .append(spread(1, 200)).append(';');
        }
        int programs = in(1, 4);
        for (int k = 0; k < programs && all.length() < 600; k++) {
            all.append("program ");
            if (random.nextInt(3) > 0) {
                usualProgram(all);
            } else {
                program(all);
            }
            all.append(';');
        }
        all.setLength(all.length() - 1);
        return all.length() <= 800 ? all.toString() : all.substring(0, 800);
    }

    private void settings(StringBuilder all) {
        if (random.nextInt(3) == 0) {
            all.append("efficiency ").append(in(500, 1000)).append(';');
        }
        if (random.nextInt(2) == 0) {
            all.append("fade ").append(spread(100, 20000)).append(';');
        }
        if (random.nextInt(2) == 0) {
            int heat = spread(1, 2000);
            all.append("heat ").append(heat).append(' ').append(spread(0, Math.min(100, heat)))
                    .append(';');
        }
        if (random.nextInt(3) == 0) {
            int low = random.nextInt(4) == 0 ? random.nextInt(3) * 1000 : 0;
            all.append("limits ").append(low).append(' ').append(random.nextInt(2) == 0 ? 5000 : in(Math.max(low, 3800), 5000))
                    .append(' ').append(in(250, 1000)).append(';');
        }
        if (random.nextInt(3) == 0) {
            all.append("ambient ").append(in(0, 500)).append(';');
        }
        if (random.nextInt(2) == 0) {
            int low = in(0, 3500);
            all.append("warn ").append(low).append(' ').append(in(low, 5000)).append(' ')
                    .append(in(0, 500)).append(';');
        }
        if (random.nextInt(2) == 0) {
            all.append("derate ").append(in(0, 200)).append(';');
        }
    }

    /** As cells are measured: filled, held, rested and emptied, a few times. */
    private void usualProgram(StringBuilder all) {
        int full = in(3400, 4300);
        all.append("charge ").append(in(50, 800)).append(' ').append(full);
        if (random.nextInt(5) > 0) {
            all.append(" hold ").append(full).append(' ').append(in(1, 60));
        }
        if (random.nextInt(2) == 0) {
            all.append(" rest ").append(in(1, 20));
        }
        all.append(" discharge ").append(in(50, 800)).append(' ').append(in(2000, 3300));
        if (random.nextInt(2) == 0) {
            all.append(" repeat ").append(in(0, 2)).append(' ').append(in(1, 4));
        }
    }

    private void program(StringBuilder all) {
        int steps = in(1, random.nextInt(4) == 0 ? 12 : 5);
        for (int n = 0; n < steps; n++) {
            int kind = random.nextInt(n == 0 ? 4 : 6);
            int voltage = random.nextInt(4) == 0 ? in(0, 5000) : in(2800, 4300);
            int current = random.nextInt(3) == 0 ? spread(1, 5000) : in(1, 400);
            if (n > 0) {
                all.append(' ');
            }
            switch (kind) {
                case 0:
                    all.append("charge ").append(current).append(' ').append(voltage);
                    break;
                case 1:
                    all.append("hold ").append(voltage).append(' ').append(current);
                    break;
                case 2:
                    all.append("discharge ").append(current).append(' ').append(voltage);
                    break;
                case 3:
                    all.append("rest ").append(random.nextInt(5) == 0 ? in(1, 5000) : in(1, 30));
                    break;
                default:
                    all.append("repeat ").append(in(0, n - 1)).append(' ')
                            .append(random.nextInt(4) == 0 ? in(1, 50) : in(1, 3));
                    break;
            }
        }
    }

    /** A description with some byte put in, left out or changed. */
    String spoiled() {
        StringBuilder text = new StringBuilder(description());
        String signs = "0123456789 ;; zaA\n\u00e9-9999";
        String[] words = {"curve a", "curve abcdefg 1 2", "cell a", "cell b 1000 5 5 5",
            "program", "rest 5", " repeat 0 3", ";program rest 1", ";curve d 0 0", "  ", "hold 1 1"};
        int changes = in(1, 3);
        for (int n = 0; n < changes && text.length() > 0; n++) {
            int place = in(0, text.length() - 1);
            switch (random.nextInt(5)) {
                case 0:
                    text.deleteCharAt(place);
                    break;
                case 1:
                    text.setLength(place);
                    break;
                case 2:
                    text.insert(place, words[random.nextInt(words.length)]);
                    break;
                case 3:
                    text.insert(place, signs.charAt(random.nextInt(signs.length())));
                    break;
                default:
                    text.setCharAt(place, signs.charAt(random.nextInt(signs.length())));
                    break;
            }
        }
        return text.length() <= 800 ? text.toString() : text.substring(0, 800);
    }
}
