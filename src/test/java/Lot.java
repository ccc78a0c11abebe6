import java.nio.charset.StandardCharsets;
import java.util.ArrayList;
import java.util.List;
import java.util.Random;

/** Codes as texts, drawn by lot. */
final class Lot {
    private Lot() {
    }

    /** A text as the numbers that feed() takes, five by five, blanks behind it. */
    static List<int[]> fives(String text) {
        byte[] bytes = text.getBytes(StandardCharsets.ISO_8859_1);
        List<int[]> all = new ArrayList<>();
        for (int at = 0; at < bytes.length; at += 20) {
            int[] five = new int[5];
            for (int i = 0; i < 20; i++) {
                int sign = at + i < bytes.length ? bytes[at + i] & 255 : 32;
                five[i / 4] = five[i / 4] << 8 | sign;
            }
            all.add(five);
        }
        return all;
    }

    /** A sound code in which few VALUES stand often, of all kinds of LINES. */
    static String code(Random lot) {
        int most = 1 + lot.nextInt(40);
        int vs = 1 + lot.nextInt(24);
        int ws = 1 + lot.nextInt(8);
        int ds = 1 + lot.nextInt(4);
        int jumps = lot.nextInt(30);
        StringBuilder text = new StringBuilder();
        for (int line = 0; line < most; line++) {
            String next = line(lot, vs, ws, ds, most, jumps);
            if (text.length() + next.length() > 400) {
                // A jump may go behind the end now: then both must refuse it alike.
                break;
            }
            text.append(next);
        }
        return text.toString();
    }

    private static String line(Random lot, int vs, int ws, int ds, int lines, int jumps) {
        String v = "v" + lot.nextInt(vs);
        String v1 = "v" + lot.nextInt(vs);
        String v2 = "v" + lot.nextInt(vs);
        String w = "w" + lot.nextInt(ws);
        String w1 = "w" + lot.nextInt(ws);
        String w2 = "w" + lot.nextInt(ws);
        String d = "d" + lot.nextInt(ds);
        String d1 = "d" + lot.nextInt(ds);
        if (lot.nextInt(100) < jumps) {
            int target = lot.nextInt(lot.nextInt(8) == 0 ? lines + 1 : 1 + lines / 2);
            return switch (lot.nextInt(5)) {
                case 0 -> "goto " + target + ";";
                case 1, 2 -> "if " + w + "<" + w1 + " goto " + target + ";";
                default -> "if " + v + "<" + v1 + " goto " + target + ";";
            };
        }
        String sign = "+-*".charAt(lot.nextInt(3)) + "";
        return switch (lot.nextInt(22)) {
            case 0, 1 -> v + "=" + lot.nextInt(20) + ";";
            case 2 -> w + "=" + lot.nextInt(10000) + ";";
            case 3, 4 -> v + "=in;";
            case 5 -> w + "=in;";
            case 6, 7, 8 -> v + "=" + v1 + ";";
            case 9 -> w + "=" + w1 + ";";
            case 10 -> d + "=" + d1 + ";";
            case 11 -> v + "=" + w + ";";
            case 12 -> w + "=" + v + ";";
            case 13, 14 -> v + "=" + v1 + sign + v2 + ";";
            case 15 -> w + "=" + w1 + sign + w2 + ";";
            case 16 -> d + "=" + v1 + "*" + v2 + ";";
            case 17 -> v + "=call " + v1 + ";";
            case 18 -> v + "=low " + d + ";";
            case 19 -> v + "=high " + d + ";";
            case 20 -> "out " + v + ";";
            default -> "out " + w + ";";
        };
    }

    /** A code that makes many VALUES first and reads them all behind, so that few registers don't do. */
    static String pressed(Random lot) {
        StringBuilder text = new StringBuilder();
        int vs = 2 + lot.nextInt(13);
        int ws = lot.nextInt(5);
        int ds = lot.nextInt(4);
        for (int v = 0; v < vs; v++) {
            int how = lot.nextInt(6);
            text.append("v").append(v).append(how < 2 || v == 0 ? "=in;" : how < 4 ? "=" + lot.nextInt(4) + ";" : "=v" + lot.nextInt(v) + ";");
        }
        for (int w = 0; w < ws; w++) {
            text.append("w").append(w).append(lot.nextBoolean() ? "=in;" : "=" + lot.nextInt(9) + ";");
        }
        for (int d = 0; d < ds; d++) {
            text.append("d").append(d).append("=v").append(lot.nextInt(vs)).append("*v").append(lot.nextInt(vs)).append(";");
        }
        int lines = vs + ws + ds;
        while (text.length() < 340 && lines < 36) {
            String next = line(lot, vs, Math.max(1, ws), Math.max(1, ds), lines, 20);
            text.append(next);
            lines++;
        }
        return text.toString();
    }

    /** One of the places that hold one of these signs gets another of them. */
    private static void changeOne(Random lot, StringBuilder text, String signs) {
        for (int tries = 0; tries < 50 && text.length() > 0; tries++) {
            int at = lot.nextInt(text.length());
            if (signs.indexOf(text.charAt(at)) >= 0) {
                text.setCharAt(at, signs.charAt(lot.nextInt(signs.length())));
                return;
            }
        }
    }

    private static final String[] PIECES = {"v", "w", "d", "if", "goto", "out", "in", "call", "low", "high", ";", "=", "<",
        "+", "-", "*", " ", "\n", "0", "7", "23", "24", "8", "4", "40", "41", "9999", "10000", "0003", "00000", "x", "V", "\t", "\u00e9", "vv"};

    /** A code with a few places changed, or of pieces put together. */
    static String spoilt(Random lot) {
        if (lot.nextInt(4) == 0) {
            StringBuilder text = new StringBuilder();
            String[] begins = {"v0=", "w0=", "d0=", "if v1<", "if w1<", "goto", "out", "v0=v1", "w0=w1", "d0=v1", "d0=d1", "v0=call", "v0=low"};
            text.append(begins[lot.nextInt(begins.length)]);
            for (int i = lot.nextInt(6); i > 0; i--) {
                text.append(PIECES[lot.nextInt(PIECES.length)]);
            }
            return text.toString();
        }
        if (lot.nextInt(20) == 0) {
            return "out v0;".repeat(38) + "\nv1=1;goto 40;" + (lot.nextBoolean() ? "" : "out w1;");
        }
        StringBuilder text = new StringBuilder(code(lot));
        if (lot.nextInt(3) == 0) {
            changeOne(lot, text, "vwd");
        }
        if (lot.nextInt(3) == 0) {
            // Mostly a jump that goes too far, or a number that is another.
            int at = text.indexOf("goto ");
            if (at >= 0) {
                text.insert(at + 5, 1 + lot.nextInt(4));
            }
        }
        for (int i = lot.nextInt(3); i > 0 && text.length() > 0; i--) {
            int at = lot.nextInt(text.length());
            int upTo = Math.min(text.length(), at + lot.nextInt(3));
            text.replace(at, upTo, PIECES[lot.nextInt(PIECES.length)]);
        }
        return text.length() > 400 ? text.substring(0, 400) : text.toString();
    }
}
