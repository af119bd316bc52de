/** All of the state that a look at an object can tell without changing it, as one text. */
final class Look {
    private Look() {
    }

    static String at(PlaneServos x) {
        StringBuilder all = new StringBuilder();
        sticks(x, all);
        mixes(x, all);
        servos(x, all);
        link(x, all);
        return all.toString();
    }

    private static void sticks(PlaneServos x, StringBuilder all) {
        all.append("high ").append(x.isHigh()).append(" cut ").append(x.isCut());
        for (int stick = 0; stick < 4; stick++) {
            all.append("; stick ").append(stick).append(": ").append(x.position(stick)).append(' ')
                .append(x.trim(stick)).append(' ').append(x.rate(stick)).append(' ').append(x.expo(stick))
                .append(' ').append(x.command(stick)).append(' ').append(x.drivenBy(stick));
        }
    }

    private static void mixes(PlaneServos x, StringBuilder all) {
        all.append("; mixes ").append(x.mixes());
        for (int mix = 0; mix < x.mixes(); mix++) {
            all.append("; mix ").append(x.mixSource(mix)).append(' ').append(x.mixServo(mix)).append(' ')
                .append(x.mixValue(mix)).append(' ').append(x.isActive(mix));
        }
    }

    private static void servos(PlaneServos x, StringBuilder all) {
        for (int servo = 0; servo < 6; servo++) {
            all.append("; servo ").append(servo).append(": ").append(x.demand(servo)).append(' ')
                .append(x.aim(servo)).append(' ').append(x.excess(servo)).append(' ').append(x.target(servo))
                .append(' ').append(x.servoPosition(servo)).append(' ').append(x.wear(servo)).append(' ')
                .append(x.reason(servo)).append(' ').append(x.framesToAim(servo));
        }
    }

    private static void link(PlaneServos x, StringBuilder all) {
        all.append("; link ").append(x.battery()).append(' ').append(x.charged()).append(' ').append(x.frames())
            .append(' ').append(x.lostFrames()).append(' ').append(x.deadFrames()).append(' ')
            .append(x.lostInRow()).append(' ').append(x.isFailsafe()).append(' ').append(x.failsafes())
            .append(' ').append(x.mostWorn()).append(' ').append(x.linkQuality()).append(' ').append(x.digest());
    }
}
